/-! ===== X7_refuses ===== -/
theorem dX7_refuses_0 : decode cX7_refuses 0 = .ok (.aload_n 0, 1) := by decide +kernel
theorem dX7_refuses_1 : decode cX7_refuses 1 = .ok (.getfield 86, 3) := by decide +kernel
theorem dX7_refuses_4 : decode cX7_refuses 4 = .ok (.iload_n 1, 1) := by decide +kernel
theorem dX7_refuses_5 : decode cX7_refuses 5 = .ok (.iaload, 1) := by decide +kernel
theorem dX7_refuses_6 : decode cX7_refuses 6 = .ok (.ifCond .ge 6, 3) := by decide +kernel
theorem dX7_refuses_9 : decode cX7_refuses 9 = .ok (.bipush (-11), 2) := by decide +kernel
theorem dX7_refuses_11 : decode cX7_refuses 11 = .ok (.ireturn, 1) := by decide +kernel
theorem dX7_refuses_12 : decode cX7_refuses 12 = .ok (.aload_n 0, 1) := by decide +kernel
theorem dX7_refuses_13 : decode cX7_refuses 13 = .ok (.getfield 86, 3) := by decide +kernel
theorem dX7_refuses_16 : decode cX7_refuses 16 = .ok (.iload_n 1, 1) := by decide +kernel
theorem dX7_refuses_17 : decode cX7_refuses 17 = .ok (.iaload, 1) := by decide +kernel
theorem dX7_refuses_18 : decode cX7_refuses 18 = .ok (.iload_n 2, 1) := by decide +kernel
theorem dX7_refuses_19 : decode cX7_refuses 19 = .ok (.if_icmp .eq 6, 3) := by decide +kernel
theorem dX7_refuses_22 : decode cX7_refuses 22 = .ok (.bipush (-12), 2) := by decide +kernel
theorem dX7_refuses_24 : decode cX7_refuses 24 = .ok (.ireturn, 1) := by decide +kernel
theorem dX7_refuses_25 : decode cX7_refuses 25 = .ok (.iload_n 3, 1) := by decide +kernel
theorem dX7_refuses_26 : decode cX7_refuses 26 = .ok (.ifCond .lt 20, 3) := by decide +kernel
theorem dX7_refuses_29 : decode cX7_refuses 29 = .ok (.iload_n 3, 1) := by decide +kernel
theorem dX7_refuses_30 : decode cX7_refuses 30 = .ok (.i2l, 1) := by decide +kernel
theorem dX7_refuses_31 : decode cX7_refuses 31 = .ok (.iload 4, 2) := by decide +kernel
theorem dX7_refuses_33 : decode cX7_refuses 33 = .ok (.i2l, 1) := by decide +kernel
theorem dX7_refuses_34 : decode cX7_refuses 34 = .ok (.ladd, 1) := by decide +kernel
theorem dX7_refuses_35 : decode cX7_refuses 35 = .ok (.aload_n 0, 1) := by decide +kernel
theorem dX7_refuses_36 : decode cX7_refuses 36 = .ok (.getfield 89, 3) := by decide +kernel
theorem dX7_refuses_39 : decode cX7_refuses 39 = .ok (.iload_n 1, 1) := by decide +kernel
theorem dX7_refuses_40 : decode cX7_refuses 40 = .ok (.iaload, 1) := by decide +kernel
theorem dX7_refuses_41 : decode cX7_refuses 41 = .ok (.i2l, 1) := by decide +kernel
theorem dX7_refuses_42 : decode cX7_refuses 42 = .ok (.lcmp, 1) := by decide +kernel
theorem dX7_refuses_43 : decode cX7_refuses 43 = .ok (.ifCond .le 8, 3) := by decide +kernel
theorem dX7_refuses_46 : decode cX7_refuses 46 = .ok (.bipush (-13), 2) := by decide +kernel
theorem dX7_refuses_48 : decode cX7_refuses 48 = .ok (.goto 4, 3) := by decide +kernel
theorem dX7_refuses_51 : decode cX7_refuses 51 = .ok (.iconst 0, 1) := by decide +kernel
theorem dX7_refuses_52 : decode cX7_refuses 52 = .ok (.ireturn, 1) := by decide +kernel
abbrev W_X7_refuses (cyI cyJ cyO : ClassId) (h_o a_o_sets a_o_ringFar a_o_ringTone a_o_currents a_o_warmths a_o_depths a_o_tape a_o_readFar a_o_readTone a_o_readSea a_o_code a_o_cellAt a_o_courseAt a_o_paceAt a_o_turnsAt a_o_slowAt a_o_fuelAt a_o_ringAt a_o_pieceParts a_o_dragCell a_o_dragBy a_o_sums a_o_shares a_o_keptFar a_o_image a_o_lanes a_o_sizes a_o_items a_o_movedItems : Nat) (o_taped : Int32) (o_at : Int32) (o_wrong : Int32) (o_level : Int32) (o_noRings : Int32) (o_noTones : Int32) (o_noFuel : Int32) (o_pieces : Int32) (o_drags : Int32) (o_all : Int64) (o_noPieces : Int32) (o_noDrags : Int32) (o_kept : Int32) (o_lanes : Nat → Int32) (o_sizes : Nat → Int32) : va_W := [(h_o, .inr (7, [.ref a_o_sets, .ref a_o_ringFar, .ref a_o_ringTone, .ref a_o_currents, .ref a_o_warmths, .ref a_o_depths, .ref a_o_tape, .int o_taped, .int o_at, .int o_wrong, .ref a_o_readFar, .ref a_o_readTone, .ref a_o_readSea, .ref a_o_code, .ref a_o_cellAt, .ref a_o_courseAt, .ref a_o_paceAt, .ref a_o_turnsAt, .ref a_o_slowAt, .ref a_o_fuelAt, .ref a_o_ringAt, .int o_level, .int o_noRings, .int o_noTones, .int o_noFuel, .int o_pieces, .ref a_o_pieceParts, .int o_drags, .ref a_o_dragCell, .ref a_o_dragBy, .ref a_o_sums, .long o_all, .int o_noPieces, .int o_noDrags, .ref a_o_shares, .ref a_o_keptFar, .ref a_o_image, .int o_kept, .ref a_o_lanes, .ref a_o_sizes, .ref a_o_items, .ref a_o_movedItems])), (a_o_lanes, .inl (cyI, 4, .inl o_lanes)), (a_o_sizes, .inl (cyI, 4, .inl o_sizes))]
def f_X7_refuses (x1 : Int32) (x2 : Int32) (x3 : Int32) (x4 : Int32) (o_lanes : Nat → Int32) (o_sizes : Nat → Int32) : Option (Int32) :=
  chk (¬ (x1 < 0 ∨ 4 ≤ x1.toNatClampNeg)) <|
  if 0 ≤ (o_lanes x1.toNatClampNeg) then
    chk (¬ (x1 < 0 ∨ 4 ≤ x1.toNatClampNeg)) <|
    if (o_lanes x1.toNatClampNeg) = x2 then
      if x3 < 0 then
        some (-13)
      else
        chk (¬ (x1 < 0 ∨ 4 ≤ x1.toNatClampNeg)) <|
        if (lg_cmp (x3.toInt64 + x4.toInt64) ((o_sizes x1.toNatClampNeg).toInt64)) ≤ 0 then
          some 0
        else
          some (-13)
    else
      some (-12)
  else
    some (-11)
abbrev rm_X7_refuses : Room := { frames := 0, cells := 0, slots := 0, locals := 0 }
set_option maxRecDepth 100000 in
set_option maxHeartbeats 4000000 in
theorem c_X7_refuses (l : Launch) (dC : Nat → ClassId) (dI : Nat → Nat → Nat) (cyI cyJ cyO : ClassId) (sz : Nat) (h_o a_o_sets a_o_ringFar a_o_ringTone a_o_currents a_o_warmths a_o_depths a_o_tape a_o_readFar a_o_readTone a_o_readSea a_o_code a_o_cellAt a_o_courseAt a_o_paceAt a_o_turnsAt a_o_slowAt a_o_fuelAt a_o_ringAt a_o_pieceParts a_o_dragCell a_o_dragBy a_o_sums a_o_shares a_o_keptFar a_o_image a_o_lanes a_o_sizes a_o_items a_o_movedItems : Nat) (o_taped : Int32) (o_at : Int32) (o_wrong : Int32) (o_level : Int32) (o_noRings : Int32) (o_noTones : Int32) (o_noFuel : Int32) (o_pieces : Int32) (o_drags : Int32) (o_all : Int64) (o_noPieces : Int32) (o_noDrags : Int32) (o_kept : Int32) (o_lanes : Nat → Int32) (o_sizes : Nat → Int32) (x1 : Int32) (x2 : Int32) (x3 : Int32) (x4 : Int32) (post : Int32 → Prop) (hf : okP (f_X7_refuses x1 x2 x3 x4 o_lanes o_sizes) post) : Ci l (dC, dI) (tyL cyI cyJ cyO) yX7_refuses wsX7_refuses rm_X7_refuses [.ref h_o, .int x1, .int x2, .int x3, .int x4] sz (W_X7_refuses cyI cyJ cyO h_o a_o_sets a_o_ringFar a_o_ringTone a_o_currents a_o_warmths a_o_depths a_o_tape a_o_readFar a_o_readTone a_o_readSea a_o_code a_o_cellAt a_o_courseAt a_o_paceAt a_o_turnsAt a_o_slowAt a_o_fuelAt a_o_ringAt a_o_pieceParts a_o_dragCell a_o_dragBy a_o_sums a_o_shares a_o_keptFar a_o_image a_o_lanes a_o_sizes a_o_items a_o_movedItems o_taped o_at o_wrong o_level o_noRings o_noTones o_noFuel o_pieces o_drags o_all o_noPieces o_noDrags o_kept o_lanes o_sizes) zN (fun r (_ : Unit) => post r) (fun _ => (W_X7_refuses cyI cyJ cyO h_o a_o_sets a_o_ringFar a_o_ringTone a_o_currents a_o_warmths a_o_depths a_o_tape a_o_readFar a_o_readTone a_o_readSea a_o_code a_o_cellAt a_o_courseAt a_o_paceAt a_o_turnsAt a_o_slowAt a_o_fuelAt a_o_ringAt a_o_pieceParts a_o_dragCell a_o_dragBy a_o_sums a_o_shares a_o_keptFar a_o_image a_o_lanes a_o_sizes a_o_items a_o_movedItems o_taped o_at o_wrong o_level o_noRings o_noTones o_noFuel o_pieces o_drags o_all o_noPieces o_noDrags o_kept o_lanes o_sizes)) := by
  refine Met.ofW (cc := cX7_refuses) (maxL := 5) (ret := (some .int)) (by decide) rfl ?_
  intro p e s m args below meth c s₁ B hml hv
  obtain ⟨rfl, hsz, hP, hK, hD0, hZ⟩ := hv
  have hx := B.exec
  have hb := B.bytes
  have hr := B.returns
  have hts := atoms_spec (ws := wsX7_refuses) B.pre
  have hown : s.vm.findClass RX7 = some m.cls := findClass_of_methodNamed B.named
  have hlocks := B.notSynchronized
  subst hsz
  have hD := hD0.self (sz := s.heap.size)
  generalize hAe : va_A (W_X7_refuses cyI cyJ cyO h_o a_o_sets a_o_ringFar a_o_ringTone a_o_currents a_o_warmths a_o_depths a_o_tape a_o_readFar a_o_readTone a_o_readSea a_o_code a_o_cellAt a_o_courseAt a_o_paceAt a_o_turnsAt a_o_slowAt a_o_fuelAt a_o_ringAt a_o_pieceParts a_o_dragCell a_o_dragBy a_o_sums a_o_shares a_o_keptFar a_o_image a_o_lanes a_o_sizes a_o_items a_o_movedItems o_taped o_at o_wrong o_level o_noRings o_noTones o_noFuel o_pieces o_drags o_all o_noPieces o_noDrags o_kept o_lanes o_sizes) s.heap.size = A at hD hZ ⊢
  have hA : ∀ q : Nat, s.heap.size ≤ q → A q := fun q h => by rw [← hAe]; exact Or.inr h
  clear hAe hD0
  have hS : va_S A s.heap s.heap [] := va_S.rf
  have hl := lv_entry ([.ref h_o, .int x1, .int x2, .int x3, .int x4]) (n := 5) (Nat.le_of_ble_eq_true rfl)
  rw [lg_entry_eq]
  generalize (lg_sl ([.ref h_o, .int x1, .int x2, .int x3, .int x4]) ++ List.replicate (5 - (lg_sl ([.ref h_o, .int x1, .int x2, .int x3, .int x4])).length) Slot.unset).toArray = ls at hl ⊢
  have hl : lv_has ls 5 [(0, .ref h_o), (1, .int x1), (2, .int x2), (3, .int x3), (4, .int x4)] := hl
  refine kW (fun Q hQ => ?_)
  have hq0 := hts _ (List.mem_cons_of_mem _ q_744)
  have hi7 : ∀ w ∈ u_ws RX7 TX7 42, w ∈ wsX7_refuses := fun w h => List.mem_cons_of_mem _ (inX7 w h)
  have hq2 := hts _ (List.mem_cons_of_mem _ q_745)
  have hw := hf
  unfold f_X7_refuses at hw
  have hP : va_P (dC, dI) vwCl (W_X7_refuses cyI cyJ cyO h_o a_o_sets a_o_ringFar a_o_ringTone a_o_currents a_o_warmths a_o_depths a_o_tape a_o_readFar a_o_readTone a_o_readSea a_o_code a_o_cellAt a_o_courseAt a_o_paceAt a_o_turnsAt a_o_slowAt a_o_fuelAt a_o_ringAt a_o_pieceParts a_o_dragCell a_o_dragBy a_o_sums a_o_shares a_o_keptFar a_o_image a_o_lanes a_o_sizes a_o_items a_o_movedItems o_taped o_at o_wrong o_level o_noRings o_noTones o_noFuel o_pieces o_drags o_all o_noPieces o_noDrags o_kept o_lanes o_sizes) s.heap := hP
  obtain ⟨H, hH⟩ : ∃ H, H = s.heap := ⟨_, rfl⟩
  obtain ⟨locs, hlo⟩ : ∃ x : List Loc, x = [] := ⟨_, rfl⟩
  have hP : va_P (dC, dI) vwCl (W_X7_refuses cyI cyJ cyO h_o a_o_sets a_o_ringFar a_o_ringTone a_o_currents a_o_warmths a_o_depths a_o_tape a_o_readFar a_o_readTone a_o_readSea a_o_code a_o_cellAt a_o_courseAt a_o_paceAt a_o_turnsAt a_o_slowAt a_o_fuelAt a_o_ringAt a_o_pieceParts a_o_dragCell a_o_dragBy a_o_sums a_o_shares a_o_keptFar a_o_image a_o_lanes a_o_sizes a_o_items a_o_movedItems o_taped o_at o_wrong o_level o_noRings o_noTones o_noFuel o_pieces o_drags o_all o_noPieces o_noDrags o_kept o_lanes o_sizes) H := by rw [hH]; exact hP
  have hS : va_S A s.heap H locs := by rw [hH, hlo]; exact hS
  refine kH hH hlo ?_
  clear hH hlo
  refine lv_aload_n hx hb dX7_refuses_0 rfl (lv_at hl 0 rfl) ?_
  refine va_get (D := (dC, dI)) (ci := 7) (v := .ref a_o_lanes) (C := RX7) (T := TX7) (N := 42) hx hb hts hi7 hown hK hP 0 rfl rfl 38 (by decide) hq0 (fun _ h9 => h9) rfl dX7_refuses_1 ?_
  refine lv_iload_n hx hb dX7_refuses_4 rfl (lv_at hl 1 rfl) ?_
  obtain ⟨h_1, hw⟩ := okC hw
  refine va_iald (i := x1) hx hb hK hP 1 0 rfl rfl h_1 dX7_refuses_5 ?_
  refine lv_if_ge (tgt := 12) hx hb dX7_refuses_6 (by decide) (fun c_2 => ?_) (fun c_2 => ?_)
  · replace hw := okT hw c_2
    clear c_2
    refine lv_aload_n hx hb dX7_refuses_12 rfl (lv_at hl 0 rfl) ?_
    refine va_get (D := (dC, dI)) (ci := 7) (v := .ref a_o_lanes) (C := RX7) (T := TX7) (N := 42) hx hb hts hi7 hown hK hP 0 rfl rfl 38 (by decide) hq0 (fun _ h9 => h9) rfl dX7_refuses_13 ?_
    refine lv_iload_n hx hb dX7_refuses_16 rfl (lv_at hl 1 rfl) ?_
    obtain ⟨h_3, hw⟩ := okC hw
    refine va_iald (i := x1) hx hb hK hP 1 0 rfl rfl h_3 dX7_refuses_17 ?_
    refine lv_iload_n hx hb dX7_refuses_18 rfl (lv_at hl 2 rfl) ?_
    refine lv_icmp_eq (tgt := 25) hx hb dX7_refuses_19 (by decide) (fun c_4 => ?_) (fun c_4 => ?_)
    · replace hw := okT hw c_4
      clear c_4
      refine lv_iload_n hx hb dX7_refuses_25 rfl (lv_at hl 3 rfl) ?_
      refine lv_if_lt (tgt := 46) hx hb dX7_refuses_26 (by decide) (fun c_5 => ?_) (fun c_5 => ?_)
      · replace hw := okT hw c_5
        clear c_5
        refine lv_bipush (v := (-13)) hx hb dX7_refuses_46 (by decide) ?_
        refine lv_goto (tgt := 52) hx hb dX7_refuses_48 (by decide) ?_
        rw [hQ]
        exact W.iret (v := (-13)) hx hb hr (fun t ht hW => ⟨⟨(-13), (), rfl, okS hw, by rw [ht]; exact hP, va_K.moved hW.alike hK, hD⟩, hS.F ht⟩) hS.2.2 dX7_refuses_52
      · replace hw := okF hw c_5
        clear c_5
        refine lv_iload_n hx hb dX7_refuses_29 rfl (lv_at hl 3 rfl) ?_
        refine lv_i2l (v := x3.toInt64) hx hb dX7_refuses_30 rfl ?_
        refine lv_iload hx hb dX7_refuses_31 (lv_at hl 4 rfl) ?_
        refine lv_i2l (v := x4.toInt64) hx hb dX7_refuses_33 rfl ?_
        refine lv_ladd hx hb dX7_refuses_34 ?_
        refine lv_aload_n hx hb dX7_refuses_35 rfl (lv_at hl 0 rfl) ?_
        refine va_get (D := (dC, dI)) (ci := 7) (v := .ref a_o_sizes) (C := RX7) (T := TX7) (N := 42) hx hb hts hi7 hown hK hP 0 rfl rfl 39 (by decide) hq2 (fun _ h9 => h9) rfl dX7_refuses_36 ?_
        refine lv_iload_n hx hb dX7_refuses_39 rfl (lv_at hl 1 rfl) ?_
        obtain ⟨h_6, hw⟩ := okC hw
        refine va_iald (i := x1) hx hb hK hP 2 0 rfl rfl h_6 dX7_refuses_40 ?_
        refine lv_i2l (v := (o_sizes x1.toNatClampNeg).toInt64) hx hb dX7_refuses_41 rfl ?_
        refine W.lcmp hx hb dX7_refuses_42 ?_
        refine lv_if_le (tgt := 51) hx hb dX7_refuses_43 (by decide) (fun c_7 => ?_) (fun c_7 => ?_)
        · replace hw := okT hw c_7
          clear c_7
          refine lv_iconst (v := 0) hx hb dX7_refuses_51 (by decide) ?_
          rw [hQ]
          exact W.iret (v := 0) hx hb hr (fun t ht hW => ⟨⟨0, (), rfl, okS hw, by rw [ht]; exact hP, va_K.moved hW.alike hK, hD⟩, hS.F ht⟩) hS.2.2 dX7_refuses_52
        · replace hw := okF hw c_7
          clear c_7
          refine lv_bipush (v := (-13)) hx hb dX7_refuses_46 (by decide) ?_
          refine lv_goto (tgt := 52) hx hb dX7_refuses_48 (by decide) ?_
          rw [hQ]
          exact W.iret (v := (-13)) hx hb hr (fun t ht hW => ⟨⟨(-13), (), rfl, okS hw, by rw [ht]; exact hP, va_K.moved hW.alike hK, hD⟩, hS.F ht⟩) hS.2.2 dX7_refuses_52
    · replace hw := okF hw c_4
      clear c_4
      refine lv_bipush (v := (-12)) hx hb dX7_refuses_22 (by decide) ?_
      rw [hQ]
      exact W.iret (v := (-12)) hx hb hr (fun t ht hW => ⟨⟨(-12), (), rfl, okS hw, by rw [ht]; exact hP, va_K.moved hW.alike hK, hD⟩, hS.F ht⟩) hS.2.2 dX7_refuses_24
  · replace hw := okF hw c_2
    clear c_2
    refine lv_bipush (v := (-11)) hx hb dX7_refuses_9 (by decide) ?_
    rw [hQ]
    exact W.iret (v := (-11)) hx hb hr (fun t ht hW => ⟨⟨(-11), (), rfl, okS hw, by rw [ht]; exact hP, va_K.moved hW.alike hK, hD⟩, hS.F ht⟩) hS.2.2 dX7_refuses_11
/-! ===== X7_isKnown ===== -/
theorem dX7_isKnown_0 : decode cX7_isKnown 0 = .ok (.aload_n 0, 1) := by decide +kernel
theorem dX7_isKnown_1 : decode cX7_isKnown 1 = .ok (.invokevirtual 187, 3) := by decide +kernel
theorem dX7_isKnown_4 : decode cX7_isKnown 4 = .ok (.aload_n 0, 1) := by decide +kernel
theorem dX7_isKnown_5 : decode cX7_isKnown 5 = .ok (.bipush 127, 2) := by decide +kernel
theorem dX7_isKnown_7 : decode cX7_isKnown 7 = .ok (.putfield 167, 3) := by decide +kernel
theorem dX7_isKnown_10 : decode cX7_isKnown 10 = .ok (.aload_n 0, 1) := by decide +kernel
theorem dX7_isKnown_11 : decode cX7_isKnown 11 = .ok (.invokevirtual 190, 3) := by decide +kernel
theorem dX7_isKnown_14 : decode cX7_isKnown 14 = .ok (.iconst 0, 1) := by decide +kernel
theorem dX7_isKnown_15 : decode cX7_isKnown 15 = .ok (.istore_n 2, 1) := by decide +kernel
theorem dX7_isKnown_16 : decode cX7_isKnown 16 = .ok (.iload_n 2, 1) := by decide +kernel
theorem dX7_isKnown_17 : decode cX7_isKnown 17 = .ok (.ifCond .ne 60, 3) := by decide +kernel
theorem dX7_isKnown_20 : decode cX7_isKnown 20 = .ok (.aload_n 0, 1) := by decide +kernel
theorem dX7_isKnown_21 : decode cX7_isKnown 21 = .ok (.invokevirtual 193, 3) := by decide +kernel
theorem dX7_isKnown_24 : decode cX7_isKnown 24 = .ok (.ifCond .eq 53, 3) := by decide +kernel
theorem dX7_isKnown_27 : decode cX7_isKnown 27 = .ok (.iconst 1, 1) := by decide +kernel
theorem dX7_isKnown_28 : decode cX7_isKnown 28 = .ok (.istore_n 2, 1) := by decide +kernel
theorem dX7_isKnown_29 : decode cX7_isKnown 29 = .ok (.iconst 0, 1) := by decide +kernel
theorem dX7_isKnown_30 : decode cX7_isKnown 30 = .ok (.istore_n 3, 1) := by decide +kernel
theorem dX7_isKnown_31 : decode cX7_isKnown 31 = .ok (.iload_n 3, 1) := by decide +kernel
theorem dX7_isKnown_32 : decode cX7_isKnown 32 = .ok (.aload_n 0, 1) := by decide +kernel
theorem dX7_isKnown_33 : decode cX7_isKnown 33 = .ok (.getfield 7, 3) := by decide +kernel
theorem dX7_isKnown_36 : decode cX7_isKnown 36 = .ok (.iconst 2, 1) := by decide +kernel
theorem dX7_isKnown_37 : decode cX7_isKnown 37 = .ok (.iaload, 1) := by decide +kernel
theorem dX7_isKnown_38 : decode cX7_isKnown 38 = .ok (.if_icmp .gt 36, 3) := by decide +kernel
theorem dX7_isKnown_41 : decode cX7_isKnown 41 = .ok (.iload_n 2, 1) := by decide +kernel
theorem dX7_isKnown_42 : decode cX7_isKnown 42 = .ok (.ifCond .eq 24, 3) := by decide +kernel
theorem dX7_isKnown_45 : decode cX7_isKnown 45 = .ok (.aload_n 0, 1) := by decide +kernel
theorem dX7_isKnown_46 : decode cX7_isKnown 46 = .ok (.getfield 43, 3) := by decide +kernel
theorem dX7_isKnown_49 : decode cX7_isKnown 49 = .ok (.iload_n 3, 1) := by decide +kernel
theorem dX7_isKnown_50 : decode cX7_isKnown 50 = .ok (.iaload, 1) := by decide +kernel
theorem dX7_isKnown_51 : decode cX7_isKnown 51 = .ok (.aload_n 0, 1) := by decide +kernel
theorem dX7_isKnown_52 : decode cX7_isKnown 52 = .ok (.getfield 92, 3) := by decide +kernel
theorem dX7_isKnown_55 : decode cX7_isKnown 55 = .ok (.iload_n 1, 1) := by decide +kernel
theorem dX7_isKnown_56 : decode cX7_isKnown 56 = .ok (.iload_n 3, 1) := by decide +kernel
theorem dX7_isKnown_57 : decode cX7_isKnown 57 = .ok (.iadd, 1) := by decide +kernel
theorem dX7_isKnown_58 : decode cX7_isKnown 58 = .ok (.iaload, 1) := by decide +kernel
theorem dX7_isKnown_59 : decode cX7_isKnown 59 = .ok (.if_icmp .ne 7, 3) := by decide +kernel
theorem dX7_isKnown_62 : decode cX7_isKnown 62 = .ok (.iconst 1, 1) := by decide +kernel
theorem dX7_isKnown_63 : decode cX7_isKnown 63 = .ok (.goto 4, 3) := by decide +kernel
theorem dX7_isKnown_66 : decode cX7_isKnown 66 = .ok (.iconst 0, 1) := by decide +kernel
theorem dX7_isKnown_67 : decode cX7_isKnown 67 = .ok (.istore_n 2, 1) := by decide +kernel
theorem dX7_isKnown_68 : decode cX7_isKnown 68 = .ok (.iinc 3 1, 3) := by decide +kernel
theorem dX7_isKnown_71 : decode cX7_isKnown 71 = .ok (.goto (-40), 3) := by decide +kernel
theorem dX7_isKnown_74 : decode cX7_isKnown 74 = .ok (.goto (-58), 3) := by decide +kernel
theorem dX7_isKnown_77 : decode cX7_isKnown 77 = .ok (.iload_n 2, 1) := by decide +kernel
theorem dX7_isKnown_78 : decode cX7_isKnown 78 = .ok (.ireturn, 1) := by decide +kernel
abbrev W_X7_isKnown (cyI cyJ cyO : ClassId) (h_o a_o_sets a_o_ringFar a_o_ringTone a_o_currents a_o_warmths a_o_depths a_o_tape a_o_readFar a_o_readTone a_o_readSea a_o_code a_o_cellAt a_o_courseAt a_o_paceAt a_o_turnsAt a_o_slowAt a_o_fuelAt a_o_ringAt a_o_pieceParts a_o_dragCell a_o_dragBy a_o_sums a_o_shares a_o_keptFar a_o_image a_o_lanes a_o_sizes a_o_items a_o_movedItems : Nat) (o_taped : Int32) (o_at : Int32) (o_wrong : Int32) (o_level : Int32) (o_noRings : Int32) (o_noTones : Int32) (o_noFuel : Int32) (o_pieces : Int32) (o_drags : Int32) (o_all : Int64) (o_noPieces : Int32) (o_noDrags : Int32) (o_kept : Int32) (o_sets : Nat → Int32) (o_ringFar : Nat → Int32) (o_ringTone : Nat → Int32) (o_code : Nat → Int32) (o_cellAt : Nat → Int32) (o_courseAt : Nat → Int32) (o_paceAt : Nat → Int32) (o_turnsAt : Nat → Int32) (o_slowAt : Nat → Int32) (o_fuelAt : Nat → Int32) (o_ringAt : Nat → Int32) (o_items : Nat → Int32) : va_W := [(h_o, .inr (7, [.ref a_o_sets, .ref a_o_ringFar, .ref a_o_ringTone, .ref a_o_currents, .ref a_o_warmths, .ref a_o_depths, .ref a_o_tape, .int o_taped, .int o_at, .int o_wrong, .ref a_o_readFar, .ref a_o_readTone, .ref a_o_readSea, .ref a_o_code, .ref a_o_cellAt, .ref a_o_courseAt, .ref a_o_paceAt, .ref a_o_turnsAt, .ref a_o_slowAt, .ref a_o_fuelAt, .ref a_o_ringAt, .int o_level, .int o_noRings, .int o_noTones, .int o_noFuel, .int o_pieces, .ref a_o_pieceParts, .int o_drags, .ref a_o_dragCell, .ref a_o_dragBy, .ref a_o_sums, .long o_all, .int o_noPieces, .int o_noDrags, .ref a_o_shares, .ref a_o_keptFar, .ref a_o_image, .int o_kept, .ref a_o_lanes, .ref a_o_sizes, .ref a_o_items, .ref a_o_movedItems])), (a_o_sets, .inl (cyI, 8, .inl o_sets)), (a_o_ringFar, .inl (cyI, 7, .inl o_ringFar)), (a_o_ringTone, .inl (cyI, 7, .inl o_ringTone)), (a_o_code, .inl (cyI, 7, .inl o_code)), (a_o_cellAt, .inl (cyI, 7, .inl o_cellAt)), (a_o_courseAt, .inl (cyI, 7, .inl o_courseAt)), (a_o_paceAt, .inl (cyI, 7, .inl o_paceAt)), (a_o_turnsAt, .inl (cyI, 7, .inl o_turnsAt)), (a_o_slowAt, .inl (cyI, 7, .inl o_slowAt)), (a_o_fuelAt, .inl (cyI, 7, .inl o_fuelAt)), (a_o_ringAt, .inl (cyI, 7, .inl o_ringAt)), (a_o_items, .inl (cyI, 64, .inl o_items))]
def f_X7_isKnown_B67 (k16 : Int32 → Int32 → Int32 → Int32 → Int32 → Int32 → (Nat → Int32) → (Nat → Int32) → (Nat → Int32) → (Nat → Int32) → (Nat → Int32) → (Nat → Int32) → (Nat → Int32) → (Nat → Int32) → (Nat → Int32) → (Nat → Int32) → (Nat → Int32) → (Nat → Int32) → Option (Int32 × Int32 × Int32 × Int32 × Int32 × (Nat → Int32) × (Nat → Int32) × (Nat → Int32) × (Nat → Int32) × (Nat → Int32) × (Nat → Int32) × (Nat → Int32) × (Nat → Int32))) (k31 : Int32 → Int32 → Int32 → Int32 → Int32 → Int32 → Int32 → (Nat → Int32) → (Nat → Int32) → (Nat → Int32) → (Nat → Int32) → (Nat → Int32) → (Nat → Int32) → (Nat → Int32) → (Nat → Int32) → (Nat → Int32) → (Nat → Int32) → (Nat → Int32) → (Nat → Int32) → Option (Int32 × Int32 × Int32 × Int32 × Int32 × (Nat → Int32) × (Nat → Int32) × (Nat → Int32) × (Nat → Int32) × (Nat → Int32) × (Nat → Int32) × (Nat → Int32) × (Nat → Int32))) (v1 : Int32) (v3 : Int32) (y0 : Int32) (o_level : Int32) (o_noRings : Int32) (o_noTones : Int32) (o_noFuel : Int32) (o_sets : Nat → Int32) (o_ringFar : Nat → Int32) (o_ringTone : Nat → Int32) (o_code : Nat → Int32) (o_cellAt : Nat → Int32) (o_courseAt : Nat → Int32) (o_paceAt : Nat → Int32) (o_turnsAt : Nat → Int32) (o_slowAt : Nat → Int32) (o_fuelAt : Nat → Int32) (o_ringAt : Nat → Int32) (o_items : Nat → Int32) : Option (Int32 × Int32 × Int32 × Int32 × Int32 × (Nat → Int32) × (Nat → Int32) × (Nat → Int32) × (Nat → Int32) × (Nat → Int32) × (Nat → Int32) × (Nat → Int32) × (Nat → Int32)) :=
  nm (v3 + 1) fun x_1 =>
  k31 v1 y0 x_1 o_level o_noRings o_noTones o_noFuel o_sets o_ringFar o_ringTone o_code o_cellAt o_courseAt o_paceAt o_turnsAt o_slowAt o_fuelAt o_ringAt o_items
def f_X7_isKnown_B66 (k16 : Int32 → Int32 → Int32 → Int32 → Int32 → Int32 → (Nat → Int32) → (Nat → Int32) → (Nat → Int32) → (Nat → Int32) → (Nat → Int32) → (Nat → Int32) → (Nat → Int32) → (Nat → Int32) → (Nat → Int32) → (Nat → Int32) → (Nat → Int32) → (Nat → Int32) → Option (Int32 × Int32 × Int32 × Int32 × Int32 × (Nat → Int32) × (Nat → Int32) × (Nat → Int32) × (Nat → Int32) × (Nat → Int32) × (Nat → Int32) × (Nat → Int32) × (Nat → Int32))) (k31 : Int32 → Int32 → Int32 → Int32 → Int32 → Int32 → Int32 → (Nat → Int32) → (Nat → Int32) → (Nat → Int32) → (Nat → Int32) → (Nat → Int32) → (Nat → Int32) → (Nat → Int32) → (Nat → Int32) → (Nat → Int32) → (Nat → Int32) → (Nat → Int32) → (Nat → Int32) → Option (Int32 × Int32 × Int32 × Int32 × Int32 × (Nat → Int32) × (Nat → Int32) × (Nat → Int32) × (Nat → Int32) × (Nat → Int32) × (Nat → Int32) × (Nat → Int32) × (Nat → Int32))) (v1 : Int32) (v3 : Int32) (o_level : Int32) (o_noRings : Int32) (o_noTones : Int32) (o_noFuel : Int32) (o_sets : Nat → Int32) (o_ringFar : Nat → Int32) (o_ringTone : Nat → Int32) (o_code : Nat → Int32) (o_cellAt : Nat → Int32) (o_courseAt : Nat → Int32) (o_paceAt : Nat → Int32) (o_turnsAt : Nat → Int32) (o_slowAt : Nat → Int32) (o_fuelAt : Nat → Int32) (o_ringAt : Nat → Int32) (o_items : Nat → Int32) : Option (Int32 × Int32 × Int32 × Int32 × Int32 × (Nat → Int32) × (Nat → Int32) × (Nat → Int32) × (Nat → Int32) × (Nat → Int32) × (Nat → Int32) × (Nat → Int32) × (Nat → Int32)) :=
  f_X7_isKnown_B67 k16 k31 v1 v3 0 o_level o_noRings o_noTones o_noFuel o_sets o_ringFar o_ringTone o_code o_cellAt o_courseAt o_paceAt o_turnsAt o_slowAt o_fuelAt o_ringAt o_items
def f_X7_isKnown_L31b (k16 : Int32 → Int32 → Int32 → Int32 → Int32 → Int32 → (Nat → Int32) → (Nat → Int32) → (Nat → Int32) → (Nat → Int32) → (Nat → Int32) → (Nat → Int32) → (Nat → Int32) → (Nat → Int32) → (Nat → Int32) → (Nat → Int32) → (Nat → Int32) → (Nat → Int32) → Option (Int32 × Int32 × Int32 × Int32 × Int32 × (Nat → Int32) × (Nat → Int32) × (Nat → Int32) × (Nat → Int32) × (Nat → Int32) × (Nat → Int32) × (Nat → Int32) × (Nat → Int32))) (k31 : Int32 → Int32 → Int32 → Int32 → Int32 → Int32 → Int32 → (Nat → Int32) → (Nat → Int32) → (Nat → Int32) → (Nat → Int32) → (Nat → Int32) → (Nat → Int32) → (Nat → Int32) → (Nat → Int32) → (Nat → Int32) → (Nat → Int32) → (Nat → Int32) → (Nat → Int32) → Option (Int32 × Int32 × Int32 × Int32 × Int32 × (Nat → Int32) × (Nat → Int32) × (Nat → Int32) × (Nat → Int32) × (Nat → Int32) × (Nat → Int32) × (Nat → Int32) × (Nat → Int32))) (v1 : Int32) (v2 : Int32) (v3 : Int32) (o_level : Int32) (o_noRings : Int32) (o_noTones : Int32) (o_noFuel : Int32) (o_sets : Nat → Int32) (o_ringFar : Nat → Int32) (o_ringTone : Nat → Int32) (o_code : Nat → Int32) (o_cellAt : Nat → Int32) (o_courseAt : Nat → Int32) (o_paceAt : Nat → Int32) (o_turnsAt : Nat → Int32) (o_slowAt : Nat → Int32) (o_fuelAt : Nat → Int32) (o_ringAt : Nat → Int32) (o_items : Nat → Int32) : Option (Int32 × Int32 × Int32 × Int32 × Int32 × (Nat → Int32) × (Nat → Int32) × (Nat → Int32) × (Nat → Int32) × (Nat → Int32) × (Nat → Int32) × (Nat → Int32) × (Nat → Int32)) :=
  if (o_sets 2) < v3 then
    k16 v1 v2 o_level o_noRings o_noTones o_noFuel o_sets o_ringFar o_ringTone o_code o_cellAt o_courseAt o_paceAt o_turnsAt o_slowAt o_fuelAt o_ringAt o_items
  else
    if v2 = 0 then
      f_X7_isKnown_B66 k16 k31 v1 v3 o_level o_noRings o_noTones o_noFuel o_sets o_ringFar o_ringTone o_code o_cellAt o_courseAt o_paceAt o_turnsAt o_slowAt o_fuelAt o_ringAt o_items
    else
      chk (¬ (v3 < 0 ∨ 7 ≤ v3.toNatClampNeg)) <|
      chk (¬ (v1 + v3 < 0 ∨ 64 ≤ (v1 + v3).toNatClampNeg)) <|
      if (o_cellAt v3.toNatClampNeg) = (o_items (v1 + v3).toNatClampNeg) then
        f_X7_isKnown_B67 k16 k31 v1 v3 1 o_level o_noRings o_noTones o_noFuel o_sets o_ringFar o_ringTone o_code o_cellAt o_courseAt o_paceAt o_turnsAt o_slowAt o_fuelAt o_ringAt o_items
      else
        f_X7_isKnown_B66 k16 k31 v1 v3 o_level o_noRings o_noTones o_noFuel o_sets o_ringFar o_ringTone o_code o_cellAt o_courseAt o_paceAt o_turnsAt o_slowAt o_fuelAt o_ringAt o_items
def f_X7_isKnown_L31 (k16 : Int32 → Int32 → Int32 → Int32 → Int32 → Int32 → (Nat → Int32) → (Nat → Int32) → (Nat → Int32) → (Nat → Int32) → (Nat → Int32) → (Nat → Int32) → (Nat → Int32) → (Nat → Int32) → (Nat → Int32) → (Nat → Int32) → (Nat → Int32) → (Nat → Int32) → Option (Int32 × Int32 × Int32 × Int32 × Int32 × (Nat → Int32) × (Nat → Int32) × (Nat → Int32) × (Nat → Int32) × (Nat → Int32) × (Nat → Int32) × (Nat → Int32) × (Nat → Int32))) : Nat → Int32 → Int32 → Int32 → Int32 → Int32 → Int32 → Int32 → (Nat → Int32) → (Nat → Int32) → (Nat → Int32) → (Nat → Int32) → (Nat → Int32) → (Nat → Int32) → (Nat → Int32) → (Nat → Int32) → (Nat → Int32) → (Nat → Int32) → (Nat → Int32) → (Nat → Int32) → Option (Int32 × Int32 × Int32 × Int32 × Int32 × (Nat → Int32) × (Nat → Int32) × (Nat → Int32) × (Nat → Int32) × (Nat → Int32) × (Nat → Int32) × (Nat → Int32) × (Nat → Int32))
  | 0 => fun _ _ _ _ _ _ _ _ _ _ _ _ _ _ _ _ _ _ _ => none
  | n + 1 => f_X7_isKnown_L31b k16 (f_X7_isKnown_L31 k16 n)
def f_X7_isKnown_L16b (k16 : Int32 → Int32 → Int32 → Int32 → Int32 → Int32 → (Nat → Int32) → (Nat → Int32) → (Nat → Int32) → (Nat → Int32) → (Nat → Int32) → (Nat → Int32) → (Nat → Int32) → (Nat → Int32) → (Nat → Int32) → (Nat → Int32) → (Nat → Int32) → (Nat → Int32) → Option (Int32 × Int32 × Int32 × Int32 × Int32 × (Nat → Int32) × (Nat → Int32) × (Nat → Int32) × (Nat → Int32) × (Nat → Int32) × (Nat → Int32) × (Nat → Int32) × (Nat → Int32))) (v1 : Int32) (v2 : Int32) (o_level : Int32) (o_noRings : Int32) (o_noTones : Int32) (o_noFuel : Int32) (o_sets : Nat → Int32) (o_ringFar : Nat → Int32) (o_ringTone : Nat → Int32) (o_code : Nat → Int32) (o_cellAt : Nat → Int32) (o_courseAt : Nat → Int32) (o_paceAt : Nat → Int32) (o_turnsAt : Nat → Int32) (o_slowAt : Nat → Int32) (o_fuelAt : Nat → Int32) (o_ringAt : Nat → Int32) (o_items : Nat → Int32) : Option (Int32 × Int32 × Int32 × Int32 × Int32 × (Nat → Int32) × (Nat → Int32) × (Nat → Int32) × (Nat → Int32) × (Nat → Int32) × (Nat → Int32) × (Nat → Int32) × (Nat → Int32)) :=
  if v2 = 0 then
    bd10 (f_X7_goesOn o_level o_noRings o_noTones o_noFuel o_sets o_ringFar o_ringTone o_code o_cellAt o_courseAt o_paceAt o_turnsAt o_slowAt o_fuelAt o_ringAt) fun r_2 w_3 w_4 w_5 w_6 w_7 w_8 w_9 w_10 w_11 =>
    if r_2 = 0 then
      chk (v2 = 0 ∨ v2 = 1) <|
      some (v2, w_3, o_noRings, o_noTones, o_noFuel, w_4, w_5, w_6, w_7, w_8, w_9, w_10, w_11)
    else
      f_X7_isKnown_L31 k16 FU v1 1 0 w_3 o_noRings o_noTones o_noFuel o_sets o_ringFar o_ringTone w_4 w_5 w_6 w_7 w_8 w_9 w_10 w_11 o_items
  else
    chk (v2 = 0 ∨ v2 = 1) <|
    some (v2, o_level, o_noRings, o_noTones, o_noFuel, o_code, o_cellAt, o_courseAt, o_paceAt, o_turnsAt, o_slowAt, o_fuelAt, o_ringAt)
def f_X7_isKnown_L16 : Nat → Int32 → Int32 → Int32 → Int32 → Int32 → Int32 → (Nat → Int32) → (Nat → Int32) → (Nat → Int32) → (Nat → Int32) → (Nat → Int32) → (Nat → Int32) → (Nat → Int32) → (Nat → Int32) → (Nat → Int32) → (Nat → Int32) → (Nat → Int32) → (Nat → Int32) → Option (Int32 × Int32 × Int32 × Int32 × Int32 × (Nat → Int32) × (Nat → Int32) × (Nat → Int32) × (Nat → Int32) × (Nat → Int32) × (Nat → Int32) × (Nat → Int32) × (Nat → Int32))
  | 0 => fun _ _ _ _ _ _ _ _ _ _ _ _ _ _ _ _ _ _ => none
  | n + 1 => f_X7_isKnown_L16b (f_X7_isKnown_L16 n)
def f_X7_isKnown (x1 : Int32) (o_level : Int32) (o_noRings : Int32) (o_noTones : Int32) (o_noFuel : Int32) (o_sets : Nat → Int32) (o_ringFar : Nat → Int32) (o_ringTone : Nat → Int32) (o_code : Nat → Int32) (o_cellAt : Nat → Int32) (o_courseAt : Nat → Int32) (o_paceAt : Nat → Int32) (o_turnsAt : Nat → Int32) (o_slowAt : Nat → Int32) (o_fuelAt : Nat → Int32) (o_ringAt : Nat → Int32) (o_items : Nat → Int32) : Option (Int32 × Int32 × Int32 × Int32 × Int32 × (Nat → Int32) × (Nat → Int32) × (Nat → Int32) × (Nat → Int32) × (Nat → Int32) × (Nat → Int32) × (Nat → Int32) × (Nat → Int32)) :=
  bd3 (f_X7_asTold o_noRings o_noTones o_noFuel) fun w_12 w_13 w_14 =>
  bd7 (f_X7_begins o_level o_sets o_code o_cellAt o_turnsAt o_slowAt o_fuelAt o_ringAt) fun w_15 w_16 w_17 w_18 w_19 w_20 w_21 =>
  f_X7_isKnown_L16 FU x1 0 w_15 127 w_13 w_14 o_sets o_ringFar o_ringTone w_16 w_17 o_courseAt o_paceAt w_18 w_19 w_20 w_21 o_items
abbrev rm_X7_isKnown : Room := { frames := 4, cells := 0, slots := 0, locals := 98 }
set_option maxRecDepth 100000 in
set_option maxHeartbeats 4000000 in
theorem c_X7_isKnown (l : Launch) (dC : Nat → ClassId) (dI : Nat → Nat → Nat) (cyI cyJ cyO : ClassId) (sz : Nat) (h_o a_o_sets a_o_ringFar a_o_ringTone a_o_currents a_o_warmths a_o_depths a_o_tape a_o_readFar a_o_readTone a_o_readSea a_o_code a_o_cellAt a_o_courseAt a_o_paceAt a_o_turnsAt a_o_slowAt a_o_fuelAt a_o_ringAt a_o_pieceParts a_o_dragCell a_o_dragBy a_o_sums a_o_shares a_o_keptFar a_o_image a_o_lanes a_o_sizes a_o_items a_o_movedItems : Nat) (o_taped : Int32) (o_at : Int32) (o_wrong : Int32) (o_level : Int32) (o_noRings : Int32) (o_noTones : Int32) (o_noFuel : Int32) (o_pieces : Int32) (o_drags : Int32) (o_all : Int64) (o_noPieces : Int32) (o_noDrags : Int32) (o_kept : Int32) (o_sets : Nat → Int32) (o_ringFar : Nat → Int32) (o_ringTone : Nat → Int32) (o_code : Nat → Int32) (o_cellAt : Nat → Int32) (o_courseAt : Nat → Int32) (o_paceAt : Nat → Int32) (o_turnsAt : Nat → Int32) (o_slowAt : Nat → Int32) (o_fuelAt : Nat → Int32) (o_ringAt : Nat → Int32) (o_items : Nat → Int32) (x1 : Int32) (post : (Int32 × Int32 × Int32 × Int32 × Int32 × (Nat → Int32) × (Nat → Int32) × (Nat → Int32) × (Nat → Int32) × (Nat → Int32) × (Nat → Int32) × (Nat → Int32) × (Nat → Int32)) → Prop) (hf : okP (f_X7_isKnown x1 o_level o_noRings o_noTones o_noFuel o_sets o_ringFar o_ringTone o_code o_cellAt o_courseAt o_paceAt o_turnsAt o_slowAt o_fuelAt o_ringAt o_items) post) : Ci l (dC, dI) (tyL cyI cyJ cyO) yX7_isKnown wsX7_isKnown rm_X7_isKnown [.ref h_o, .int x1] sz (W_X7_isKnown cyI cyJ cyO h_o a_o_sets a_o_ringFar a_o_ringTone a_o_currents a_o_warmths a_o_depths a_o_tape a_o_readFar a_o_readTone a_o_readSea a_o_code a_o_cellAt a_o_courseAt a_o_paceAt a_o_turnsAt a_o_slowAt a_o_fuelAt a_o_ringAt a_o_pieceParts a_o_dragCell a_o_dragBy a_o_sums a_o_shares a_o_keptFar a_o_image a_o_lanes a_o_sizes a_o_items a_o_movedItems o_taped o_at o_wrong o_level o_noRings o_noTones o_noFuel o_pieces o_drags o_all o_noPieces o_noDrags o_kept o_sets o_ringFar o_ringTone o_code o_cellAt o_courseAt o_paceAt o_turnsAt o_slowAt o_fuelAt o_ringAt o_items) zN (fun r u => post (r, u)) (fun u => (W_X7_isKnown cyI cyJ cyO h_o a_o_sets a_o_ringFar a_o_ringTone a_o_currents a_o_warmths a_o_depths a_o_tape a_o_readFar a_o_readTone a_o_readSea a_o_code a_o_cellAt a_o_courseAt a_o_paceAt a_o_turnsAt a_o_slowAt a_o_fuelAt a_o_ringAt a_o_pieceParts a_o_dragCell a_o_dragBy a_o_sums a_o_shares a_o_keptFar a_o_image a_o_lanes a_o_sizes a_o_items a_o_movedItems o_taped o_at o_wrong u.1 u.2.1 u.2.2.1 u.2.2.2.1 o_pieces o_drags o_all o_noPieces o_noDrags o_kept o_sets o_ringFar o_ringTone u.2.2.2.2.1 u.2.2.2.2.2.1 u.2.2.2.2.2.2.1 u.2.2.2.2.2.2.2.1 u.2.2.2.2.2.2.2.2.1 u.2.2.2.2.2.2.2.2.2.1 u.2.2.2.2.2.2.2.2.2.2.1 u.2.2.2.2.2.2.2.2.2.2.2 o_items)) := by
  refine Met.ofW (cc := cX7_isKnown) (maxL := 4) (ret := (some .boolean)) (by decide) rfl ?_
  intro p e s m args below meth c s₁ B hml hv
  obtain ⟨rfl, hsz, hP, hK, hD0, hZ⟩ := hv
  have hx := B.exec
  have hb := B.bytes
  have hr := B.returns
  have hts := atoms_spec (ws := wsX7_isKnown) B.pre
  have hown : s.vm.findClass RX7 = some m.cls := findClass_of_methodNamed B.named
  have hlocks := B.notSynchronized
  subst hsz
  have hD := hD0.self (sz := s.heap.size)
  generalize hAe : va_A (W_X7_isKnown cyI cyJ cyO h_o a_o_sets a_o_ringFar a_o_ringTone a_o_currents a_o_warmths a_o_depths a_o_tape a_o_readFar a_o_readTone a_o_readSea a_o_code a_o_cellAt a_o_courseAt a_o_paceAt a_o_turnsAt a_o_slowAt a_o_fuelAt a_o_ringAt a_o_pieceParts a_o_dragCell a_o_dragBy a_o_sums a_o_shares a_o_keptFar a_o_image a_o_lanes a_o_sizes a_o_items a_o_movedItems o_taped o_at o_wrong o_level o_noRings o_noTones o_noFuel o_pieces o_drags o_all o_noPieces o_noDrags o_kept o_sets o_ringFar o_ringTone o_code o_cellAt o_courseAt o_paceAt o_turnsAt o_slowAt o_fuelAt o_ringAt o_items) s.heap.size = A at hD hZ ⊢
  have hA : ∀ q : Nat, s.heap.size ≤ q → A q := fun q h => by rw [← hAe]; exact Or.inr h
  clear hAe hD0
  have hS : va_S A s.heap s.heap [] := va_S.rf
  have hl := lv_entry ([.ref h_o, .int x1]) (n := 4) (Nat.le_of_ble_eq_true rfl)
  rw [lg_entry_eq]
  generalize (lg_sl ([.ref h_o, .int x1]) ++ List.replicate (4 - (lg_sl ([.ref h_o, .int x1])).length) Slot.unset).toArray = ls at hl ⊢
  have hl : lv_has ls 4 [(0, .ref h_o), (1, .int x1)] := hl
  refine kW (fun Q hQ => ?_)
  have hq0 := hts _ (List.mem_cons_of_mem _ q_706)
  have hi7 : ∀ w ∈ u_ws RX7 TX7 42, w ∈ wsX7_isKnown := fun w h => List.mem_cons_of_mem _ (inX7 w h)
  have hq2 := hts _ (List.mem_cons_of_mem _ q_720)
  have hq3 := hts _ (List.mem_cons_of_mem _ q_746)
  have hq4 := hts _ (List.mem_cons_of_mem _ q_728)
  have hw := hf
  have w16 : ∀ (n : Nat), ∀ (v1 : Int32) (v2 : Int32) (o_level : Int32) (o_noRings : Int32) (o_noTones : Int32) (o_noFuel : Int32) (o_code : Nat → Int32) (o_cellAt : Nat → Int32) (o_courseAt : Nat → Int32) (o_paceAt : Nat → Int32) (o_turnsAt : Nat → Int32) (o_slowAt : Nat → Int32) (o_fuelAt : Nat → Int32) (o_ringAt : Nat → Int32) (H : Heap) (locs : List Loc), va_P (dC, dI) vwCl (W_X7_isKnown cyI cyJ cyO h_o a_o_sets a_o_ringFar a_o_ringTone a_o_currents a_o_warmths a_o_depths a_o_tape a_o_readFar a_o_readTone a_o_readSea a_o_code a_o_cellAt a_o_courseAt a_o_paceAt a_o_turnsAt a_o_slowAt a_o_fuelAt a_o_ringAt a_o_pieceParts a_o_dragCell a_o_dragBy a_o_sums a_o_shares a_o_keptFar a_o_image a_o_lanes a_o_sizes a_o_items a_o_movedItems o_taped o_at o_wrong o_level o_noRings o_noTones o_noFuel o_pieces o_drags o_all o_noPieces o_noDrags o_kept o_sets o_ringFar o_ringTone o_code o_cellAt o_courseAt o_paceAt o_turnsAt o_slowAt o_fuelAt o_ringAt o_items) H → va_D A (W_X7_isKnown cyI cyJ cyO h_o a_o_sets a_o_ringFar a_o_ringTone a_o_currents a_o_warmths a_o_depths a_o_tape a_o_readFar a_o_readTone a_o_readSea a_o_code a_o_cellAt a_o_courseAt a_o_paceAt a_o_turnsAt a_o_slowAt a_o_fuelAt a_o_ringAt a_o_pieceParts a_o_dragCell a_o_dragBy a_o_sums a_o_shares a_o_keptFar a_o_image a_o_lanes a_o_sizes a_o_items a_o_movedItems o_taped o_at o_wrong o_level o_noRings o_noTones o_noFuel o_pieces o_drags o_all o_noPieces o_noDrags o_kept o_sets o_ringFar o_ringTone o_code o_cellAt o_courseAt o_paceAt o_turnsAt o_slowAt o_fuelAt o_ringAt o_items) → va_S A s.heap H locs → ∀ (ls : Array Slot), lv_has ls 4 [(0, .ref h_o), (1, .int v1), (2, .int v2)] → okP (f_X7_isKnown_L16 n v1 v2 o_level o_noRings o_noTones o_noFuel o_sets o_ringFar o_ringTone o_code o_cellAt o_courseAt o_paceAt o_turnsAt o_slowAt o_fuelAt o_ringAt o_items) post → W p l e (headSpec wsX7_isKnown rm_X7_isKnown).room s m ([.ref h_o, .int x1] : List Value).toArray below meth c H locs 0 0 Q (F0 m 16 ls []) := by
    intro n
    induction n with
    | zero =>
      intro v1 v2 o_level o_noRings o_noTones o_noFuel o_code o_cellAt o_courseAt o_paceAt o_turnsAt o_slowAt o_fuelAt o_ringAt H locs hP hD hS ls hl hw
      exact (ok0 hw).elim
    | succ n16 ih16 =>
      have w31 : ∀ (n : Nat), ∀ (v1 : Int32) (v2 : Int32) (v3 : Int32) (o_level : Int32) (o_noRings : Int32) (o_noTones : Int32) (o_noFuel : Int32) (o_code : Nat → Int32) (o_cellAt : Nat → Int32) (o_courseAt : Nat → Int32) (o_paceAt : Nat → Int32) (o_turnsAt : Nat → Int32) (o_slowAt : Nat → Int32) (o_fuelAt : Nat → Int32) (o_ringAt : Nat → Int32) (H : Heap) (locs : List Loc), va_P (dC, dI) vwCl (W_X7_isKnown cyI cyJ cyO h_o a_o_sets a_o_ringFar a_o_ringTone a_o_currents a_o_warmths a_o_depths a_o_tape a_o_readFar a_o_readTone a_o_readSea a_o_code a_o_cellAt a_o_courseAt a_o_paceAt a_o_turnsAt a_o_slowAt a_o_fuelAt a_o_ringAt a_o_pieceParts a_o_dragCell a_o_dragBy a_o_sums a_o_shares a_o_keptFar a_o_image a_o_lanes a_o_sizes a_o_items a_o_movedItems o_taped o_at o_wrong o_level o_noRings o_noTones o_noFuel o_pieces o_drags o_all o_noPieces o_noDrags o_kept o_sets o_ringFar o_ringTone o_code o_cellAt o_courseAt o_paceAt o_turnsAt o_slowAt o_fuelAt o_ringAt o_items) H → va_D A (W_X7_isKnown cyI cyJ cyO h_o a_o_sets a_o_ringFar a_o_ringTone a_o_currents a_o_warmths a_o_depths a_o_tape a_o_readFar a_o_readTone a_o_readSea a_o_code a_o_cellAt a_o_courseAt a_o_paceAt a_o_turnsAt a_o_slowAt a_o_fuelAt a_o_ringAt a_o_pieceParts a_o_dragCell a_o_dragBy a_o_sums a_o_shares a_o_keptFar a_o_image a_o_lanes a_o_sizes a_o_items a_o_movedItems o_taped o_at o_wrong o_level o_noRings o_noTones o_noFuel o_pieces o_drags o_all o_noPieces o_noDrags o_kept o_sets o_ringFar o_ringTone o_code o_cellAt o_courseAt o_paceAt o_turnsAt o_slowAt o_fuelAt o_ringAt o_items) → va_S A s.heap H locs → ∀ (ls : Array Slot), lv_has ls 4 [(0, .ref h_o), (1, .int v1), (2, .int v2), (3, .int v3)] → okP (f_X7_isKnown_L31 (f_X7_isKnown_L16 n16) n v1 v2 v3 o_level o_noRings o_noTones o_noFuel o_sets o_ringFar o_ringTone o_code o_cellAt o_courseAt o_paceAt o_turnsAt o_slowAt o_fuelAt o_ringAt o_items) post → W p l e (headSpec wsX7_isKnown rm_X7_isKnown).room s m ([.ref h_o, .int x1] : List Value).toArray below meth c H locs 0 0 Q (F0 m 31 ls []) := by
        intro n
        induction n with
        | zero =>
          intro v1 v2 v3 o_level o_noRings o_noTones o_noFuel o_code o_cellAt o_courseAt o_paceAt o_turnsAt o_slowAt o_fuelAt o_ringAt H locs hP hD hS ls hl hw
          exact (ok0 hw).elim
        | succ n31 ih31 =>
          have w67 : ∀ (v1 : Int32) (v3 : Int32) (y0 : Int32) (o_level : Int32) (o_noRings : Int32) (o_noTones : Int32) (o_noFuel : Int32) (o_code : Nat → Int32) (o_cellAt : Nat → Int32) (o_courseAt : Nat → Int32) (o_paceAt : Nat → Int32) (o_turnsAt : Nat → Int32) (o_slowAt : Nat → Int32) (o_fuelAt : Nat → Int32) (o_ringAt : Nat → Int32) (H : Heap) (locs : List Loc), va_P (dC, dI) vwCl (W_X7_isKnown cyI cyJ cyO h_o a_o_sets a_o_ringFar a_o_ringTone a_o_currents a_o_warmths a_o_depths a_o_tape a_o_readFar a_o_readTone a_o_readSea a_o_code a_o_cellAt a_o_courseAt a_o_paceAt a_o_turnsAt a_o_slowAt a_o_fuelAt a_o_ringAt a_o_pieceParts a_o_dragCell a_o_dragBy a_o_sums a_o_shares a_o_keptFar a_o_image a_o_lanes a_o_sizes a_o_items a_o_movedItems o_taped o_at o_wrong o_level o_noRings o_noTones o_noFuel o_pieces o_drags o_all o_noPieces o_noDrags o_kept o_sets o_ringFar o_ringTone o_code o_cellAt o_courseAt o_paceAt o_turnsAt o_slowAt o_fuelAt o_ringAt o_items) H → va_D A (W_X7_isKnown cyI cyJ cyO h_o a_o_sets a_o_ringFar a_o_ringTone a_o_currents a_o_warmths a_o_depths a_o_tape a_o_readFar a_o_readTone a_o_readSea a_o_code a_o_cellAt a_o_courseAt a_o_paceAt a_o_turnsAt a_o_slowAt a_o_fuelAt a_o_ringAt a_o_pieceParts a_o_dragCell a_o_dragBy a_o_sums a_o_shares a_o_keptFar a_o_image a_o_lanes a_o_sizes a_o_items a_o_movedItems o_taped o_at o_wrong o_level o_noRings o_noTones o_noFuel o_pieces o_drags o_all o_noPieces o_noDrags o_kept o_sets o_ringFar o_ringTone o_code o_cellAt o_courseAt o_paceAt o_turnsAt o_slowAt o_fuelAt o_ringAt o_items) → va_S A s.heap H locs → ∀ (ls : Array Slot), lv_has ls 4 [(0, .ref h_o), (1, .int v1), (3, .int v3)] → okP (f_X7_isKnown_B67 (f_X7_isKnown_L16 n16) (f_X7_isKnown_L31 (f_X7_isKnown_L16 n16) n31) v1 v3 y0 o_level o_noRings o_noTones o_noFuel o_sets o_ringFar o_ringTone o_code o_cellAt o_courseAt o_paceAt o_turnsAt o_slowAt o_fuelAt o_ringAt o_items) post → W p l e (headSpec wsX7_isKnown rm_X7_isKnown).room s m ([.ref h_o, .int x1] : List Value).toArray below meth c H locs 0 0 Q (F0 m 67 ls [.int y0]) := by
            intro v1 v3 y0 o_level o_noRings o_noTones o_noFuel o_code o_cellAt o_courseAt o_paceAt o_turnsAt o_slowAt o_fuelAt o_ringAt H locs hP hD hS ls hl hw
            unfold f_X7_isKnown_B67 at hw
            refine lv_istore_n (lv' := [(2, .int y0), (0, .ref h_o), (1, .int v1), (3, .int v3)]) hx hb dX7_isKnown_67 rfl hl (by decide) rfl (fun ls hl => ?_)
            obtain ⟨x_1, ex_1⟩ : ∃ y : Int32, y = v3 + 1 := ⟨_, rfl⟩
            replace hw := okN ex_1 hw
            refine lv_iinc (v := x_1) (lv' := [(3, .int x_1), (2, .int y0), (0, .ref h_o), (1, .int v1)]) hx hb dX7_isKnown_68 hl (k := 3) rfl (by rw [ex_1]; rfl) (by decide) rfl (fun ls hl => ?_)
            clear ex_1
            refine lv_goto (tgt := 31) hx hb dX7_isKnown_71 (by decide) ?_
            exact ih31 v1 y0 x_1 o_level o_noRings o_noTones o_noFuel o_code o_cellAt o_courseAt o_paceAt o_turnsAt o_slowAt o_fuelAt o_ringAt _ _ hP hD hS _ (lv_sub hl [2, 3, 1, 0] rfl) hw
          have w66 : ∀ (v1 : Int32) (v3 : Int32) (o_level : Int32) (o_noRings : Int32) (o_noTones : Int32) (o_noFuel : Int32) (o_code : Nat → Int32) (o_cellAt : Nat → Int32) (o_courseAt : Nat → Int32) (o_paceAt : Nat → Int32) (o_turnsAt : Nat → Int32) (o_slowAt : Nat → Int32) (o_fuelAt : Nat → Int32) (o_ringAt : Nat → Int32) (H : Heap) (locs : List Loc), va_P (dC, dI) vwCl (W_X7_isKnown cyI cyJ cyO h_o a_o_sets a_o_ringFar a_o_ringTone a_o_currents a_o_warmths a_o_depths a_o_tape a_o_readFar a_o_readTone a_o_readSea a_o_code a_o_cellAt a_o_courseAt a_o_paceAt a_o_turnsAt a_o_slowAt a_o_fuelAt a_o_ringAt a_o_pieceParts a_o_dragCell a_o_dragBy a_o_sums a_o_shares a_o_keptFar a_o_image a_o_lanes a_o_sizes a_o_items a_o_movedItems o_taped o_at o_wrong o_level o_noRings o_noTones o_noFuel o_pieces o_drags o_all o_noPieces o_noDrags o_kept o_sets o_ringFar o_ringTone o_code o_cellAt o_courseAt o_paceAt o_turnsAt o_slowAt o_fuelAt o_ringAt o_items) H → va_D A (W_X7_isKnown cyI cyJ cyO h_o a_o_sets a_o_ringFar a_o_ringTone a_o_currents a_o_warmths a_o_depths a_o_tape a_o_readFar a_o_readTone a_o_readSea a_o_code a_o_cellAt a_o_courseAt a_o_paceAt a_o_turnsAt a_o_slowAt a_o_fuelAt a_o_ringAt a_o_pieceParts a_o_dragCell a_o_dragBy a_o_sums a_o_shares a_o_keptFar a_o_image a_o_lanes a_o_sizes a_o_items a_o_movedItems o_taped o_at o_wrong o_level o_noRings o_noTones o_noFuel o_pieces o_drags o_all o_noPieces o_noDrags o_kept o_sets o_ringFar o_ringTone o_code o_cellAt o_courseAt o_paceAt o_turnsAt o_slowAt o_fuelAt o_ringAt o_items) → va_S A s.heap H locs → ∀ (ls : Array Slot), lv_has ls 4 [(0, .ref h_o), (1, .int v1), (3, .int v3)] → okP (f_X7_isKnown_B66 (f_X7_isKnown_L16 n16) (f_X7_isKnown_L31 (f_X7_isKnown_L16 n16) n31) v1 v3 o_level o_noRings o_noTones o_noFuel o_sets o_ringFar o_ringTone o_code o_cellAt o_courseAt o_paceAt o_turnsAt o_slowAt o_fuelAt o_ringAt o_items) post → W p l e (headSpec wsX7_isKnown rm_X7_isKnown).room s m ([.ref h_o, .int x1] : List Value).toArray below meth c H locs 0 0 Q (F0 m 66 ls []) := by
            intro v1 v3 o_level o_noRings o_noTones o_noFuel o_code o_cellAt o_courseAt o_paceAt o_turnsAt o_slowAt o_fuelAt o_ringAt H locs hP hD hS ls hl hw
            unfold f_X7_isKnown_B66 at hw
            refine lv_iconst (v := 0) hx hb dX7_isKnown_66 (by decide) ?_
            exact w67 v1 v3 0 o_level o_noRings o_noTones o_noFuel o_code o_cellAt o_courseAt o_paceAt o_turnsAt o_slowAt o_fuelAt o_ringAt _ _ hP hD hS _ (lv_sub hl [0, 1, 2] rfl) hw
          intro v1 v2 v3 o_level o_noRings o_noTones o_noFuel o_code o_cellAt o_courseAt o_paceAt o_turnsAt o_slowAt o_fuelAt o_ringAt H locs hP hD hS ls hl hw
          replace hw : okP (f_X7_isKnown_L31b (f_X7_isKnown_L16 n16) (f_X7_isKnown_L31 (f_X7_isKnown_L16 n16) n31) v1 v2 v3 o_level o_noRings o_noTones o_noFuel o_sets o_ringFar o_ringTone o_code o_cellAt o_courseAt o_paceAt o_turnsAt o_slowAt o_fuelAt o_ringAt o_items) post := hw
          unfold f_X7_isKnown_L31b at hw
          refine lv_iload_n hx hb dX7_isKnown_31 rfl (lv_at hl 3 rfl) ?_
          refine lv_aload_n hx hb dX7_isKnown_32 rfl (lv_at hl 0 rfl) ?_
          refine va_get (D := (dC, dI)) (ci := 7) (v := .ref a_o_sets) (C := RX7) (T := TX7) (N := 42) hx hb hts hi7 hown hK hP 0 rfl rfl 0 (by decide) hq0 (fun _ h9 => h9) rfl dX7_isKnown_33 ?_
          refine lv_iconst (v := 2) hx hb dX7_isKnown_36 (by decide) ?_
          refine va_iald (i := 2) hx hb hK hP 1 0 rfl rfl (show ¬ _ by decide) dX7_isKnown_37 ?_
          refine lv_icmp_gt (tgt := 74) hx hb dX7_isKnown_38 (by decide) (fun c_2 => ?_) (fun c_2 => ?_)
          · replace hw := okT hw c_2
            clear c_2
            refine lv_goto (tgt := 16) hx hb dX7_isKnown_74 (by decide) ?_
            exact ih16 v1 v2 o_level o_noRings o_noTones o_noFuel o_code o_cellAt o_courseAt o_paceAt o_turnsAt o_slowAt o_fuelAt o_ringAt _ _ hP hD hS _ (lv_sub hl [0, 1, 2] rfl) hw
          · replace hw := okF hw c_2
            clear c_2
            refine lv_iload_n hx hb dX7_isKnown_41 rfl (lv_at hl 2 rfl) ?_
            refine lv_if_eq (tgt := 66) hx hb dX7_isKnown_42 (by decide) (fun c_3 => ?_) (fun c_3 => ?_)
            · replace hw := okT hw c_3
              clear c_3
              exact w66 v1 v3 o_level o_noRings o_noTones o_noFuel o_code o_cellAt o_courseAt o_paceAt o_turnsAt o_slowAt o_fuelAt o_ringAt _ _ hP hD hS _ (lv_sub hl [0, 1, 3] rfl) hw
            · replace hw := okF hw c_3
              clear c_3
              refine lv_aload_n hx hb dX7_isKnown_45 rfl (lv_at hl 0 rfl) ?_
              refine va_get (D := (dC, dI)) (ci := 7) (v := .ref a_o_cellAt) (C := RX7) (T := TX7) (N := 42) hx hb hts hi7 hown hK hP 0 rfl rfl 14 (by decide) hq2 (fun _ h9 => h9) rfl dX7_isKnown_46 ?_
              refine lv_iload_n hx hb dX7_isKnown_49 rfl (lv_at hl 3 rfl) ?_
              obtain ⟨h_4, hw⟩ := okC hw
              refine va_iald (i := v3) hx hb hK hP 5 0 rfl rfl h_4 dX7_isKnown_50 ?_
              refine lv_aload_n hx hb dX7_isKnown_51 rfl (lv_at hl 0 rfl) ?_
              refine va_get (D := (dC, dI)) (ci := 7) (v := .ref a_o_items) (C := RX7) (T := TX7) (N := 42) hx hb hts hi7 hown hK hP 0 rfl rfl 40 (by decide) hq3 (fun _ h9 => h9) rfl dX7_isKnown_52 ?_
              refine lv_iload_n hx hb dX7_isKnown_55 rfl (lv_at hl 1 rfl) ?_
              refine lv_iload_n hx hb dX7_isKnown_56 rfl (lv_at hl 3 rfl) ?_
              refine lv_iadd hx hb dX7_isKnown_57 ?_
              obtain ⟨h_5, hw⟩ := okC hw
              refine va_iald (i := v1 + v3) hx hb hK hP 12 0 rfl rfl h_5 dX7_isKnown_58 ?_
              refine lv_icmp_ne (tgt := 66) hx hb dX7_isKnown_59 (by decide) (fun c_6 => ?_) (fun c_6 => ?_)
              · replace hw := okF hw c_6
                clear c_6
                exact w66 v1 v3 o_level o_noRings o_noTones o_noFuel o_code o_cellAt o_courseAt o_paceAt o_turnsAt o_slowAt o_fuelAt o_ringAt _ _ hP hD hS _ (lv_sub hl [0, 1, 3] rfl) hw
              · replace hw := okT hw c_6
                clear c_6
                refine lv_iconst (v := 1) hx hb dX7_isKnown_62 (by decide) ?_
                refine lv_goto (tgt := 67) hx hb dX7_isKnown_63 (by decide) ?_
                exact w67 v1 v3 1 o_level o_noRings o_noTones o_noFuel o_code o_cellAt o_courseAt o_paceAt o_turnsAt o_slowAt o_fuelAt o_ringAt _ _ hP hD hS _ (lv_sub hl [0, 1, 3] rfl) hw
      intro v1 v2 o_level o_noRings o_noTones o_noFuel o_code o_cellAt o_courseAt o_paceAt o_turnsAt o_slowAt o_fuelAt o_ringAt H locs hP hD hS ls hl hw
      replace hw : okP (f_X7_isKnown_L16b (f_X7_isKnown_L16 n16) v1 v2 o_level o_noRings o_noTones o_noFuel o_sets o_ringFar o_ringTone o_code o_cellAt o_courseAt o_paceAt o_turnsAt o_slowAt o_fuelAt o_ringAt o_items) post := hw
      unfold f_X7_isKnown_L16b at hw
      refine lv_iload_n hx hb dX7_isKnown_16 rfl (lv_at hl 2 rfl) ?_
      refine lv_if_ne (tgt := 77) hx hb dX7_isKnown_17 (by decide) (fun c_7 => ?_) (fun c_7 => ?_)
      · replace hw := okF hw c_7
        clear c_7
        refine lv_iload_n hx hb dX7_isKnown_77 rfl (lv_at hl 2 rfl) ?_
        obtain ⟨h_8, hw⟩ := okC hw
        rw [hQ]
        exact W.zret (v := v2) hx hb hr (nbZ h_8) (fun t ht hW => ⟨⟨v2, (o_level, o_noRings, o_noTones, o_noFuel, o_code, o_cellAt, o_courseAt, o_paceAt, o_turnsAt, o_slowAt, o_fuelAt, o_ringAt), rfl, okS hw, by rw [ht]; exact hP, va_K.moved hW.alike hK, hD⟩, hS.F ht⟩) hS.2.2 dX7_isKnown_78
      · replace hw := okT hw c_7
        clear c_7
        refine lv_aload_n hx hb dX7_isKnown_20 rfl (lv_at hl 0 rfl) ?_
        have hPc := hP.sub (ws' := (W_X7_goesOn cyI cyJ cyO h_o a_o_sets a_o_ringFar a_o_ringTone a_o_currents a_o_warmths a_o_depths a_o_tape a_o_readFar a_o_readTone a_o_readSea a_o_code a_o_cellAt a_o_courseAt a_o_paceAt a_o_turnsAt a_o_slowAt a_o_fuelAt a_o_ringAt a_o_pieceParts a_o_dragCell a_o_dragBy a_o_sums a_o_shares a_o_keptFar a_o_image a_o_lanes a_o_sizes a_o_items a_o_movedItems o_taped o_at o_wrong o_level o_noRings o_noTones o_noFuel o_pieces o_drags o_all o_noPieces o_noDrags o_kept o_sets o_ringFar o_ringTone o_code o_cellAt o_courseAt o_paceAt o_turnsAt o_slowAt o_fuelAt o_ringAt)) [0, 1, 2, 3, 4, 5, 6, 7, 8, 9, 10, 11] rfl
        have hDc := hD.sub (ws' := (W_X7_goesOn cyI cyJ cyO h_o a_o_sets a_o_ringFar a_o_ringTone a_o_currents a_o_warmths a_o_depths a_o_tape a_o_readFar a_o_readTone a_o_readSea a_o_code a_o_cellAt a_o_courseAt a_o_paceAt a_o_turnsAt a_o_slowAt a_o_fuelAt a_o_ringAt a_o_pieceParts a_o_dragCell a_o_dragBy a_o_sums a_o_shares a_o_keptFar a_o_image a_o_lanes a_o_sizes a_o_items a_o_movedItems o_taped o_at o_wrong o_level o_noRings o_noTones o_noFuel o_pieces o_drags o_all o_noPieces o_noDrags o_kept o_sets o_ringFar o_ringTone o_code o_cellAt o_courseAt o_paceAt o_turnsAt o_slowAt o_fuelAt o_ringAt)) [0, 1, 2, 3, 4, 5, 6, 7, 8, 9, 10, 11] (by decide +kernel) rfl
        have hFc := va_free (wc := (W_X7_goesOn cyI cyJ cyO h_o a_o_sets a_o_ringFar a_o_ringTone a_o_currents a_o_warmths a_o_depths a_o_tape a_o_readFar a_o_readTone a_o_readSea a_o_code a_o_cellAt a_o_courseAt a_o_paceAt a_o_turnsAt a_o_slowAt a_o_fuelAt a_o_ringAt a_o_pieceParts a_o_dragCell a_o_dragBy a_o_sums a_o_shares a_o_keptFar a_o_image a_o_lanes a_o_sizes a_o_items a_o_movedItems o_taped o_at o_wrong o_level o_noRings o_noTones o_noFuel o_pieces o_drags o_all o_noPieces o_noDrags o_kept o_sets o_ringFar o_ringTone o_code o_cellAt o_courseAt o_paceAt o_turnsAt o_slowAt o_fuelAt o_ringAt)) hD hS hA [0, 1, 2, 3, 4, 5, 6, 7, 8, 9, 10, 11] rfl
        refine kc_i (wr := [(a_o_items, .inl (cyI, 64, .inl o_items))]) (va_runV (As := []) (rest := []) ⟨hx, hb, hml, hown, hts⟩ (c_X7_goesOn l dC dI cyI cyJ cyO H.size h_o a_o_sets a_o_ringFar a_o_ringTone a_o_currents a_o_warmths a_o_depths a_o_tape a_o_readFar a_o_readTone a_o_readSea a_o_code a_o_cellAt a_o_courseAt a_o_paceAt a_o_turnsAt a_o_slowAt a_o_fuelAt a_o_ringAt a_o_pieceParts a_o_dragCell a_o_dragBy a_o_sums a_o_shares a_o_keptFar a_o_image a_o_lanes a_o_sizes a_o_items a_o_movedItems o_taped o_at o_wrong o_level o_noRings o_noTones o_noFuel o_pieces o_drags o_all o_noPieces o_noDrags o_kept o_sets o_ringFar o_ringTone o_code o_cellAt o_courseAt o_paceAt o_turnsAt o_slowAt o_fuelAt o_ringAt _ (okb10 hw)) (cwV 0 hts (gdV (fun w h => List.mem_cons_of_mem _ h) q_904 q_906 qs_30 q_8 q_907) rfl rfl rfl (by decide +kernel) ⟨Nat.le_of_ble_eq_true rfl, Nat.le_of_ble_eq_true rfl⟩) ⟨(kpre zN_ok hK hPc hDc trivial hS hFc).1, va_recv hK hP (ci := 7) (q0 := 0) rfl rfl, (kpre zN_ok hK hPc hDc trivial hS hFc).2⟩ rfl rfl hl.1 rfl (lv_room (Nat.le_of_ble_eq_true rfl)) dX7_isKnown_21 ⟨Nat.le_of_ble_eq_true rfl, Nat.le_of_ble_eq_true rfl⟩) hP hD hS hFc [0, 1, 2, 3, 4, 5, 6, 7, 8, 9, 10, 11] [12] rfl rfl (by decide +kernel) (by decide +kernel) (fun r_9 u H locs hw hP hD hS => ?_)
        obtain ⟨w_10, w_11, w_12, w_13, w_14, w_15, w_16, w_17, w_18⟩ := u
        try dsimp only at hw
        have hP : va_P (dC, dI) vwCl (W_X7_isKnown cyI cyJ cyO h_o a_o_sets a_o_ringFar a_o_ringTone a_o_currents a_o_warmths a_o_depths a_o_tape a_o_readFar a_o_readTone a_o_readSea a_o_code a_o_cellAt a_o_courseAt a_o_paceAt a_o_turnsAt a_o_slowAt a_o_fuelAt a_o_ringAt a_o_pieceParts a_o_dragCell a_o_dragBy a_o_sums a_o_shares a_o_keptFar a_o_image a_o_lanes a_o_sizes a_o_items a_o_movedItems o_taped o_at o_wrong w_10 o_noRings o_noTones o_noFuel o_pieces o_drags o_all o_noPieces o_noDrags o_kept o_sets o_ringFar o_ringTone w_11 w_12 w_13 w_14 w_15 w_16 w_17 w_18 o_items) H := hP.sub [1, 2, 3, 4, 5, 6, 7, 8, 9, 10, 11, 12, 0] rfl
        have hD : va_D A (W_X7_isKnown cyI cyJ cyO h_o a_o_sets a_o_ringFar a_o_ringTone a_o_currents a_o_warmths a_o_depths a_o_tape a_o_readFar a_o_readTone a_o_readSea a_o_code a_o_cellAt a_o_courseAt a_o_paceAt a_o_turnsAt a_o_slowAt a_o_fuelAt a_o_ringAt a_o_pieceParts a_o_dragCell a_o_dragBy a_o_sums a_o_shares a_o_keptFar a_o_image a_o_lanes a_o_sizes a_o_items a_o_movedItems o_taped o_at o_wrong w_10 o_noRings o_noTones o_noFuel o_pieces o_drags o_all o_noPieces o_noDrags o_kept o_sets o_ringFar o_ringTone w_11 w_12 w_13 w_14 w_15 w_16 w_17 w_18 o_items) := hD.sub [1, 2, 3, 4, 5, 6, 7, 8, 9, 10, 11, 12, 0] (by decide +kernel) rfl
        clear hPc hDc hFc
        refine lv_if_eq (tgt := 77) hx hb dX7_isKnown_24 (by decide) (fun c_19 => ?_) (fun c_19 => ?_)
        · replace hw := okT hw c_19
          clear c_19
          refine lv_iload_n hx hb dX7_isKnown_77 rfl (lv_at hl 2 rfl) ?_
          obtain ⟨h_20, hw⟩ := okC hw
          rw [hQ]
          exact W.zret (v := v2) hx hb hr (nbZ h_20) (fun t ht hW => ⟨⟨v2, (w_10, o_noRings, o_noTones, o_noFuel, w_11, w_12, w_13, w_14, w_15, w_16, w_17, w_18), rfl, okS hw, by rw [ht]; exact hP, va_K.moved hW.alike hK, hD⟩, hS.F ht⟩) hS.2.2 dX7_isKnown_78
        · replace hw := okF hw c_19
          clear c_19
          refine lv_iconst (v := 1) hx hb dX7_isKnown_27 (by decide) ?_
          refine lv_istore_n (lv' := [(2, .int 1), (0, .ref h_o), (1, .int v1)]) hx hb dX7_isKnown_28 rfl hl (by decide) rfl (fun ls hl => ?_)
          refine lv_iconst (v := 0) hx hb dX7_isKnown_29 (by decide) ?_
          refine lv_istore_n (lv' := [(3, .int 0), (2, .int 1), (0, .ref h_o), (1, .int v1)]) hx hb dX7_isKnown_30 rfl hl (by decide) rfl (fun ls hl => ?_)
          exact w31 FU v1 1 0 w_10 o_noRings o_noTones o_noFuel w_11 w_12 w_13 w_14 w_15 w_16 w_17 w_18 _ _ hP hD hS _ (lv_sub hl [2, 3, 1, 0] rfl) hw
  unfold f_X7_isKnown at hw
  have hP : va_P (dC, dI) vwCl (W_X7_isKnown cyI cyJ cyO h_o a_o_sets a_o_ringFar a_o_ringTone a_o_currents a_o_warmths a_o_depths a_o_tape a_o_readFar a_o_readTone a_o_readSea a_o_code a_o_cellAt a_o_courseAt a_o_paceAt a_o_turnsAt a_o_slowAt a_o_fuelAt a_o_ringAt a_o_pieceParts a_o_dragCell a_o_dragBy a_o_sums a_o_shares a_o_keptFar a_o_image a_o_lanes a_o_sizes a_o_items a_o_movedItems o_taped o_at o_wrong o_level o_noRings o_noTones o_noFuel o_pieces o_drags o_all o_noPieces o_noDrags o_kept o_sets o_ringFar o_ringTone o_code o_cellAt o_courseAt o_paceAt o_turnsAt o_slowAt o_fuelAt o_ringAt o_items) s.heap := hP
  obtain ⟨H, hH⟩ : ∃ H, H = s.heap := ⟨_, rfl⟩
  obtain ⟨locs, hlo⟩ : ∃ x : List Loc, x = [] := ⟨_, rfl⟩
  have hP : va_P (dC, dI) vwCl (W_X7_isKnown cyI cyJ cyO h_o a_o_sets a_o_ringFar a_o_ringTone a_o_currents a_o_warmths a_o_depths a_o_tape a_o_readFar a_o_readTone a_o_readSea a_o_code a_o_cellAt a_o_courseAt a_o_paceAt a_o_turnsAt a_o_slowAt a_o_fuelAt a_o_ringAt a_o_pieceParts a_o_dragCell a_o_dragBy a_o_sums a_o_shares a_o_keptFar a_o_image a_o_lanes a_o_sizes a_o_items a_o_movedItems o_taped o_at o_wrong o_level o_noRings o_noTones o_noFuel o_pieces o_drags o_all o_noPieces o_noDrags o_kept o_sets o_ringFar o_ringTone o_code o_cellAt o_courseAt o_paceAt o_turnsAt o_slowAt o_fuelAt o_ringAt o_items) H := by rw [hH]; exact hP
  have hS : va_S A s.heap H locs := by rw [hH, hlo]; exact hS
  refine kH hH hlo ?_
  clear hH hlo
  refine lv_aload_n hx hb dX7_isKnown_0 rfl (lv_at hl 0 rfl) ?_
  have hPc := hP.sub (ws' := (W_X7_asTold cyI cyJ cyO h_o a_o_sets a_o_ringFar a_o_ringTone a_o_currents a_o_warmths a_o_depths a_o_tape a_o_readFar a_o_readTone a_o_readSea a_o_code a_o_cellAt a_o_courseAt a_o_paceAt a_o_turnsAt a_o_slowAt a_o_fuelAt a_o_ringAt a_o_pieceParts a_o_dragCell a_o_dragBy a_o_sums a_o_shares a_o_keptFar a_o_image a_o_lanes a_o_sizes a_o_items a_o_movedItems o_taped o_at o_wrong o_level o_noRings o_noTones o_noFuel o_pieces o_drags o_all o_noPieces o_noDrags o_kept)) [0] rfl
  have hDc := hD.sub (ws' := (W_X7_asTold cyI cyJ cyO h_o a_o_sets a_o_ringFar a_o_ringTone a_o_currents a_o_warmths a_o_depths a_o_tape a_o_readFar a_o_readTone a_o_readSea a_o_code a_o_cellAt a_o_courseAt a_o_paceAt a_o_turnsAt a_o_slowAt a_o_fuelAt a_o_ringAt a_o_pieceParts a_o_dragCell a_o_dragBy a_o_sums a_o_shares a_o_keptFar a_o_image a_o_lanes a_o_sizes a_o_items a_o_movedItems o_taped o_at o_wrong o_level o_noRings o_noTones o_noFuel o_pieces o_drags o_all o_noPieces o_noDrags o_kept)) [0] (by decide +kernel) rfl
  have hFc := va_free (wc := (W_X7_asTold cyI cyJ cyO h_o a_o_sets a_o_ringFar a_o_ringTone a_o_currents a_o_warmths a_o_depths a_o_tape a_o_readFar a_o_readTone a_o_readSea a_o_code a_o_cellAt a_o_courseAt a_o_paceAt a_o_turnsAt a_o_slowAt a_o_fuelAt a_o_ringAt a_o_pieceParts a_o_dragCell a_o_dragBy a_o_sums a_o_shares a_o_keptFar a_o_image a_o_lanes a_o_sizes a_o_items a_o_movedItems o_taped o_at o_wrong o_level o_noRings o_noTones o_noFuel o_pieces o_drags o_all o_noPieces o_noDrags o_kept)) hD hS hA [0] rfl
  refine kc_v (wr := [(a_o_sets, .inl (cyI, 8, .inl o_sets)), (a_o_ringFar, .inl (cyI, 7, .inl o_ringFar)), (a_o_ringTone, .inl (cyI, 7, .inl o_ringTone)), (a_o_code, .inl (cyI, 7, .inl o_code)), (a_o_cellAt, .inl (cyI, 7, .inl o_cellAt)), (a_o_courseAt, .inl (cyI, 7, .inl o_courseAt)), (a_o_paceAt, .inl (cyI, 7, .inl o_paceAt)), (a_o_turnsAt, .inl (cyI, 7, .inl o_turnsAt)), (a_o_slowAt, .inl (cyI, 7, .inl o_slowAt)), (a_o_fuelAt, .inl (cyI, 7, .inl o_fuelAt)), (a_o_ringAt, .inl (cyI, 7, .inl o_ringAt)), (a_o_items, .inl (cyI, 64, .inl o_items))]) (va_runV (As := []) (rest := []) ⟨hx, hb, hml, hown, hts⟩ (c_X7_asTold l dC dI cyI cyJ cyO H.size h_o a_o_sets a_o_ringFar a_o_ringTone a_o_currents a_o_warmths a_o_depths a_o_tape a_o_readFar a_o_readTone a_o_readSea a_o_code a_o_cellAt a_o_courseAt a_o_paceAt a_o_turnsAt a_o_slowAt a_o_fuelAt a_o_ringAt a_o_pieceParts a_o_dragCell a_o_dragBy a_o_sums a_o_shares a_o_keptFar a_o_image a_o_lanes a_o_sizes a_o_items a_o_movedItems o_taped o_at o_wrong o_level o_noRings o_noTones o_noFuel o_pieces o_drags o_all o_noPieces o_noDrags o_kept _ (okb3 hw)) (cwV 0 hts (gdV (fun w h => List.mem_cons_of_mem _ h) q_896 q_898 qs_28 q_8 q_899) rfl rfl rfl (by decide +kernel) ⟨Nat.le_of_ble_eq_true rfl, Nat.le_of_ble_eq_true rfl⟩) ⟨(kpre zN_ok hK hPc hDc trivial hS hFc).1, va_recv hK hP (ci := 7) (q0 := 0) rfl rfl, (kpre zN_ok hK hPc hDc trivial hS hFc).2⟩ rfl rfl hl.1 rfl (lv_room (Nat.le_of_ble_eq_true rfl)) dX7_isKnown_1 ⟨Nat.le_of_ble_eq_true rfl, Nat.le_of_ble_eq_true rfl⟩) hP hD hS hFc [0] [1, 2, 3, 4, 5, 6, 7, 8, 9, 10, 11, 12] rfl rfl (by decide +kernel) (by decide +kernel) (fun u H locs hw hP hD hS => ?_)
  obtain ⟨w_21, w_22, w_23⟩ := u
  try dsimp only at hw
  have hP : va_P (dC, dI) vwCl (W_X7_isKnown cyI cyJ cyO h_o a_o_sets a_o_ringFar a_o_ringTone a_o_currents a_o_warmths a_o_depths a_o_tape a_o_readFar a_o_readTone a_o_readSea a_o_code a_o_cellAt a_o_courseAt a_o_paceAt a_o_turnsAt a_o_slowAt a_o_fuelAt a_o_ringAt a_o_pieceParts a_o_dragCell a_o_dragBy a_o_sums a_o_shares a_o_keptFar a_o_image a_o_lanes a_o_sizes a_o_items a_o_movedItems o_taped o_at o_wrong o_level w_21 w_22 w_23 o_pieces o_drags o_all o_noPieces o_noDrags o_kept o_sets o_ringFar o_ringTone o_code o_cellAt o_courseAt o_paceAt o_turnsAt o_slowAt o_fuelAt o_ringAt o_items) H := hP.sub [12, 0, 1, 2, 3, 4, 5, 6, 7, 8, 9, 10, 11] rfl
  have hD : va_D A (W_X7_isKnown cyI cyJ cyO h_o a_o_sets a_o_ringFar a_o_ringTone a_o_currents a_o_warmths a_o_depths a_o_tape a_o_readFar a_o_readTone a_o_readSea a_o_code a_o_cellAt a_o_courseAt a_o_paceAt a_o_turnsAt a_o_slowAt a_o_fuelAt a_o_ringAt a_o_pieceParts a_o_dragCell a_o_dragBy a_o_sums a_o_shares a_o_keptFar a_o_image a_o_lanes a_o_sizes a_o_items a_o_movedItems o_taped o_at o_wrong o_level w_21 w_22 w_23 o_pieces o_drags o_all o_noPieces o_noDrags o_kept o_sets o_ringFar o_ringTone o_code o_cellAt o_courseAt o_paceAt o_turnsAt o_slowAt o_fuelAt o_ringAt o_items) := hD.sub [12, 0, 1, 2, 3, 4, 5, 6, 7, 8, 9, 10, 11] (by decide +kernel) rfl
  clear hPc hDc hFc
  refine lv_aload_n hx hb dX7_isKnown_4 rfl (lv_at hl 0 rfl) ?_
  refine lv_bipush (v := 127) hx hb dX7_isKnown_5 (by decide) ?_
  refine va_put (D := (dC, dI)) (ci := 7) (v := .int 127) (ty := .int) (C := RX7) (T := TX7) (N := 42) hx hb hts hi7 tyX7 tyX7_ok nmX7 hown hK hP hD hS 0 rfl rfl 22 (by decide) hq4 (fun _ h9 => h9) rfl (by decide +kernel) rfl rfl (Nat.le_of_ble_eq_true rfl) dX7_isKnown_7 (fun H locs hP hD hS => ?_)
  have hP : va_P (dC, dI) vwCl (W_X7_isKnown cyI cyJ cyO h_o a_o_sets a_o_ringFar a_o_ringTone a_o_currents a_o_warmths a_o_depths a_o_tape a_o_readFar a_o_readTone a_o_readSea a_o_code a_o_cellAt a_o_courseAt a_o_paceAt a_o_turnsAt a_o_slowAt a_o_fuelAt a_o_ringAt a_o_pieceParts a_o_dragCell a_o_dragBy a_o_sums a_o_shares a_o_keptFar a_o_image a_o_lanes a_o_sizes a_o_items a_o_movedItems o_taped o_at o_wrong o_level 127 w_22 w_23 o_pieces o_drags o_all o_noPieces o_noDrags o_kept o_sets o_ringFar o_ringTone o_code o_cellAt o_courseAt o_paceAt o_turnsAt o_slowAt o_fuelAt o_ringAt o_items) H := hP
  have hD : va_D A (W_X7_isKnown cyI cyJ cyO h_o a_o_sets a_o_ringFar a_o_ringTone a_o_currents a_o_warmths a_o_depths a_o_tape a_o_readFar a_o_readTone a_o_readSea a_o_code a_o_cellAt a_o_courseAt a_o_paceAt a_o_turnsAt a_o_slowAt a_o_fuelAt a_o_ringAt a_o_pieceParts a_o_dragCell a_o_dragBy a_o_sums a_o_shares a_o_keptFar a_o_image a_o_lanes a_o_sizes a_o_items a_o_movedItems o_taped o_at o_wrong o_level 127 w_22 w_23 o_pieces o_drags o_all o_noPieces o_noDrags o_kept o_sets o_ringFar o_ringTone o_code o_cellAt o_courseAt o_paceAt o_turnsAt o_slowAt o_fuelAt o_ringAt o_items) := hD
  refine lv_aload_n hx hb dX7_isKnown_10 rfl (lv_at hl 0 rfl) ?_
  have hPc := hP.sub (ws' := (W_X7_begins cyI cyJ cyO h_o a_o_sets a_o_ringFar a_o_ringTone a_o_currents a_o_warmths a_o_depths a_o_tape a_o_readFar a_o_readTone a_o_readSea a_o_code a_o_cellAt a_o_courseAt a_o_paceAt a_o_turnsAt a_o_slowAt a_o_fuelAt a_o_ringAt a_o_pieceParts a_o_dragCell a_o_dragBy a_o_sums a_o_shares a_o_keptFar a_o_image a_o_lanes a_o_sizes a_o_items a_o_movedItems o_taped o_at o_wrong o_level 127 w_22 w_23 o_pieces o_drags o_all o_noPieces o_noDrags o_kept o_sets o_code o_cellAt o_turnsAt o_slowAt o_fuelAt o_ringAt)) [0, 1, 4, 5, 8, 9, 10, 11] rfl
  have hDc := hD.sub (ws' := (W_X7_begins cyI cyJ cyO h_o a_o_sets a_o_ringFar a_o_ringTone a_o_currents a_o_warmths a_o_depths a_o_tape a_o_readFar a_o_readTone a_o_readSea a_o_code a_o_cellAt a_o_courseAt a_o_paceAt a_o_turnsAt a_o_slowAt a_o_fuelAt a_o_ringAt a_o_pieceParts a_o_dragCell a_o_dragBy a_o_sums a_o_shares a_o_keptFar a_o_image a_o_lanes a_o_sizes a_o_items a_o_movedItems o_taped o_at o_wrong o_level 127 w_22 w_23 o_pieces o_drags o_all o_noPieces o_noDrags o_kept o_sets o_code o_cellAt o_turnsAt o_slowAt o_fuelAt o_ringAt)) [0, 1, 4, 5, 8, 9, 10, 11] (by decide +kernel) rfl
  have hFc := va_free (wc := (W_X7_begins cyI cyJ cyO h_o a_o_sets a_o_ringFar a_o_ringTone a_o_currents a_o_warmths a_o_depths a_o_tape a_o_readFar a_o_readTone a_o_readSea a_o_code a_o_cellAt a_o_courseAt a_o_paceAt a_o_turnsAt a_o_slowAt a_o_fuelAt a_o_ringAt a_o_pieceParts a_o_dragCell a_o_dragBy a_o_sums a_o_shares a_o_keptFar a_o_image a_o_lanes a_o_sizes a_o_items a_o_movedItems o_taped o_at o_wrong o_level 127 w_22 w_23 o_pieces o_drags o_all o_noPieces o_noDrags o_kept o_sets o_code o_cellAt o_turnsAt o_slowAt o_fuelAt o_ringAt)) hD hS hA [0, 1, 4, 5, 8, 9, 10, 11] rfl
  refine kc_v (wr := [(a_o_ringFar, .inl (cyI, 7, .inl o_ringFar)), (a_o_ringTone, .inl (cyI, 7, .inl o_ringTone)), (a_o_courseAt, .inl (cyI, 7, .inl o_courseAt)), (a_o_paceAt, .inl (cyI, 7, .inl o_paceAt)), (a_o_items, .inl (cyI, 64, .inl o_items))]) (va_runV (As := []) (rest := []) ⟨hx, hb, hml, hown, hts⟩ (c_X7_begins l dC dI cyI cyJ cyO H.size h_o a_o_sets a_o_ringFar a_o_ringTone a_o_currents a_o_warmths a_o_depths a_o_tape a_o_readFar a_o_readTone a_o_readSea a_o_code a_o_cellAt a_o_courseAt a_o_paceAt a_o_turnsAt a_o_slowAt a_o_fuelAt a_o_ringAt a_o_pieceParts a_o_dragCell a_o_dragBy a_o_sums a_o_shares a_o_keptFar a_o_image a_o_lanes a_o_sizes a_o_items a_o_movedItems o_taped o_at o_wrong o_level 127 w_22 w_23 o_pieces o_drags o_all o_noPieces o_noDrags o_kept o_sets o_code o_cellAt o_turnsAt o_slowAt o_fuelAt o_ringAt _ (okb7 hw)) (cwV 0 hts (gdV (fun w h => List.mem_cons_of_mem _ h) q_900 q_902 qs_29 q_8 q_903) rfl rfl rfl (by decide +kernel) ⟨Nat.le_of_ble_eq_true rfl, Nat.le_of_ble_eq_true rfl⟩) ⟨(kpre zN_ok hK hPc hDc trivial hS hFc).1, va_recv hK hP (ci := 7) (q0 := 0) rfl rfl, (kpre zN_ok hK hPc hDc trivial hS hFc).2⟩ rfl rfl hl.1 rfl (lv_room (Nat.le_of_ble_eq_true rfl)) dX7_isKnown_11 ⟨Nat.le_of_ble_eq_true rfl, Nat.le_of_ble_eq_true rfl⟩) hP hD hS hFc [0, 1, 4, 5, 8, 9, 10, 11] [2, 3, 6, 7, 12] rfl rfl (by decide +kernel) (by decide +kernel) (fun u H locs hw hP hD hS => ?_)
  obtain ⟨w_24, w_25, w_26, w_27, w_28, w_29, w_30⟩ := u
  try dsimp only at hw
  have hP : va_P (dC, dI) vwCl (W_X7_isKnown cyI cyJ cyO h_o a_o_sets a_o_ringFar a_o_ringTone a_o_currents a_o_warmths a_o_depths a_o_tape a_o_readFar a_o_readTone a_o_readSea a_o_code a_o_cellAt a_o_courseAt a_o_paceAt a_o_turnsAt a_o_slowAt a_o_fuelAt a_o_ringAt a_o_pieceParts a_o_dragCell a_o_dragBy a_o_sums a_o_shares a_o_keptFar a_o_image a_o_lanes a_o_sizes a_o_items a_o_movedItems o_taped o_at o_wrong w_24 127 w_22 w_23 o_pieces o_drags o_all o_noPieces o_noDrags o_kept o_sets o_ringFar o_ringTone w_25 w_26 o_courseAt o_paceAt w_27 w_28 w_29 w_30 o_items) H := hP.sub [5, 6, 0, 1, 7, 8, 2, 3, 9, 10, 11, 12, 4] rfl
  have hD : va_D A (W_X7_isKnown cyI cyJ cyO h_o a_o_sets a_o_ringFar a_o_ringTone a_o_currents a_o_warmths a_o_depths a_o_tape a_o_readFar a_o_readTone a_o_readSea a_o_code a_o_cellAt a_o_courseAt a_o_paceAt a_o_turnsAt a_o_slowAt a_o_fuelAt a_o_ringAt a_o_pieceParts a_o_dragCell a_o_dragBy a_o_sums a_o_shares a_o_keptFar a_o_image a_o_lanes a_o_sizes a_o_items a_o_movedItems o_taped o_at o_wrong w_24 127 w_22 w_23 o_pieces o_drags o_all o_noPieces o_noDrags o_kept o_sets o_ringFar o_ringTone w_25 w_26 o_courseAt o_paceAt w_27 w_28 w_29 w_30 o_items) := hD.sub [5, 6, 0, 1, 7, 8, 2, 3, 9, 10, 11, 12, 4] (by decide +kernel) rfl
  clear hPc hDc hFc
  refine lv_iconst (v := 0) hx hb dX7_isKnown_14 (by decide) ?_
  refine lv_istore_n (lv' := [(2, .int 0), (0, .ref h_o), (1, .int x1)]) hx hb dX7_isKnown_15 rfl hl (by decide) rfl (fun ls hl => ?_)
  exact w16 FU x1 0 w_24 127 w_22 w_23 w_25 w_26 o_courseAt o_paceAt w_27 w_28 w_29 w_30 _ _ hP hD hS _ (lv_sub hl [1, 2, 0] rfl) hw
/-! ===== X7_held ===== -/
theorem dX7_held_0 : decode cX7_held 0 = .ok (.iload_n 1, 1) := by decide +kernel
theorem dX7_held_1 : decode cX7_held 1 = .ok (.invokestatic 259, 3) := by decide +kernel
theorem dX7_held_4 : decode cX7_held 4 = .ok (.ifCond .eq 10, 3) := by decide +kernel
theorem dX7_held_7 : decode cX7_held 7 = .ok (.iload_n 2, 1) := by decide +kernel
theorem dX7_held_8 : decode cX7_held 8 = .ok (.invokestatic 262, 3) := by decide +kernel
theorem dX7_held_11 : decode cX7_held 11 = .ok (.ifCond .ne 5, 3) := by decide +kernel
theorem dX7_held_14 : decode cX7_held 14 = .ok (.iconst (-1), 1) := by decide +kernel
theorem dX7_held_15 : decode cX7_held 15 = .ok (.ireturn, 1) := by decide +kernel
theorem dX7_held_16 : decode cX7_held 16 = .ok (.aload_n 0, 1) := by decide +kernel
theorem dX7_held_17 : decode cX7_held 17 = .ok (.iload_n 1, 1) := by decide +kernel
theorem dX7_held_18 : decode cX7_held 18 = .ok (.iload_n 2, 1) := by decide +kernel
theorem dX7_held_19 : decode cX7_held 19 = .ok (.iload_n 3, 1) := by decide +kernel
theorem dX7_held_20 : decode cX7_held 20 = .ok (.aload_n 0, 1) := by decide +kernel
theorem dX7_held_21 : decode cX7_held 21 = .ok (.getfield 7, 3) := by decide +kernel
theorem dX7_held_24 : decode cX7_held 24 = .ok (.iconst 2, 1) := by decide +kernel
theorem dX7_held_25 : decode cX7_held 25 = .ok (.iaload, 1) := by decide +kernel
theorem dX7_held_26 : decode cX7_held 26 = .ok (.iconst 1, 1) := by decide +kernel
theorem dX7_held_27 : decode cX7_held 27 = .ok (.iadd, 1) := by decide +kernel
theorem dX7_held_28 : decode cX7_held 28 = .ok (.invokevirtual 265, 3) := by decide +kernel
theorem dX7_held_31 : decode cX7_held 31 = .ok (.istore 4, 2) := by decide +kernel
theorem dX7_held_33 : decode cX7_held 33 = .ok (.iload 4, 2) := by decide +kernel
theorem dX7_held_35 : decode cX7_held 35 = .ok (.ifCond .ge 6, 3) := by decide +kernel
theorem dX7_held_38 : decode cX7_held 38 = .ok (.iload 4, 2) := by decide +kernel
theorem dX7_held_40 : decode cX7_held 40 = .ok (.ireturn, 1) := by decide +kernel
theorem dX7_held_41 : decode cX7_held 41 = .ok (.bipush 16, 2) := by decide +kernel
theorem dX7_held_43 : decode cX7_held 43 = .ok (.iload_n 1, 1) := by decide +kernel
theorem dX7_held_44 : decode cX7_held 44 = .ok (.imul, 1) := by decide +kernel
theorem dX7_held_45 : decode cX7_held 45 = .ok (.iload_n 3, 1) := by decide +kernel
theorem dX7_held_46 : decode cX7_held 46 = .ok (.iadd, 1) := by decide +kernel
theorem dX7_held_47 : decode cX7_held 47 = .ok (.istore 5, 2) := by decide +kernel
theorem dX7_held_49 : decode cX7_held 49 = .ok (.aload_n 0, 1) := by decide +kernel
theorem dX7_held_50 : decode cX7_held 50 = .ok (.iload 5, 2) := by decide +kernel
theorem dX7_held_52 : decode cX7_held 52 = .ok (.invokevirtual 269, 3) := by decide +kernel
theorem dX7_held_55 : decode cX7_held 55 = .ok (.ifCond .ne 6, 3) := by decide +kernel
theorem dX7_held_58 : decode cX7_held 58 = .ok (.bipush (-2), 2) := by decide +kernel
theorem dX7_held_60 : decode cX7_held 60 = .ok (.ireturn, 1) := by decide +kernel
theorem dX7_held_61 : decode cX7_held 61 = .ok (.aload_n 0, 1) := by decide +kernel
theorem dX7_held_62 : decode cX7_held 62 = .ok (.invokevirtual 187, 3) := by decide +kernel
theorem dX7_held_65 : decode cX7_held 65 = .ok (.aload_n 0, 1) := by decide +kernel
theorem dX7_held_66 : decode cX7_held 66 = .ok (.iconst 1, 1) := by decide +kernel
theorem dX7_held_67 : decode cX7_held 67 = .ok (.putfield 170, 3) := by decide +kernel
theorem dX7_held_70 : decode cX7_held 70 = .ok (.aload_n 0, 1) := by decide +kernel
theorem dX7_held_71 : decode cX7_held 71 = .ok (.bipush 15, 2) := by decide +kernel
theorem dX7_held_73 : decode cX7_held 73 = .ok (.putfield 225, 3) := by decide +kernel
theorem dX7_held_76 : decode cX7_held 76 = .ok (.aload_n 0, 1) := by decide +kernel
theorem dX7_held_77 : decode cX7_held 77 = .ok (.iconst 1, 1) := by decide +kernel
theorem dX7_held_78 : decode cX7_held 78 = .ok (.putfield 228, 3) := by decide +kernel
theorem dX7_held_81 : decode cX7_held 81 = .ok (.iconst 1, 1) := by decide +kernel
theorem dX7_held_82 : decode cX7_held 82 = .ok (.istore 6, 2) := by decide +kernel
theorem dX7_held_84 : decode cX7_held 84 = .ok (.iload 6, 2) := by decide +kernel
theorem dX7_held_86 : decode cX7_held 86 = .ok (.bipush 7, 2) := by decide +kernel
theorem dX7_held_88 : decode cX7_held 88 = .ok (.if_icmp .ge 59, 3) := by decide +kernel
theorem dX7_held_91 : decode cX7_held 91 = .ok (.aload_n 0, 1) := by decide +kernel
theorem dX7_held_92 : decode cX7_held 92 = .ok (.getfield 80, 3) := by decide +kernel
theorem dX7_held_95 : decode cX7_held 95 = .ok (.iload 6, 2) := by decide +kernel
theorem dX7_held_97 : decode cX7_held 97 = .ok (.aload_n 0, 1) := by decide +kernel
theorem dX7_held_98 : decode cX7_held 98 = .ok (.getfield 13, 3) := by decide +kernel
theorem dX7_held_101 : decode cX7_held 101 = .ok (.iload 6, 2) := by decide +kernel
theorem dX7_held_103 : decode cX7_held 103 = .ok (.iaload, 1) := by decide +kernel
theorem dX7_held_104 : decode cX7_held 104 = .ok (.iastore, 1) := by decide +kernel
theorem dX7_held_105 : decode cX7_held 105 = .ok (.aload_n 0, 1) := by decide +kernel
theorem dX7_held_106 : decode cX7_held 106 = .ok (.getfield 13, 3) := by decide +kernel
theorem dX7_held_109 : decode cX7_held 109 = .ok (.iload 6, 2) := by decide +kernel
theorem dX7_held_111 : decode cX7_held 111 = .ok (.iload 6, 2) := by decide +kernel
theorem dX7_held_113 : decode cX7_held 113 = .ok (.aload_n 0, 1) := by decide +kernel
theorem dX7_held_114 : decode cX7_held 114 = .ok (.getfield 7, 3) := by decide +kernel
theorem dX7_held_117 : decode cX7_held 117 = .ok (.iconst 2, 1) := by decide +kernel
theorem dX7_held_118 : decode cX7_held 118 = .ok (.iaload, 1) := by decide +kernel
theorem dX7_held_119 : decode cX7_held 119 = .ok (.if_icmp .gt 20, 3) := by decide +kernel
theorem dX7_held_122 : decode cX7_held 122 = .ok (.aload_n 0, 1) := by decide +kernel
theorem dX7_held_123 : decode cX7_held 123 = .ok (.aload_n 0, 1) := by decide +kernel
theorem dX7_held_124 : decode cX7_held 124 = .ok (.getfield 92, 3) := by decide +kernel
theorem dX7_held_127 : decode cX7_held 127 = .ok (.iload 5, 2) := by decide +kernel
theorem dX7_held_129 : decode cX7_held 129 = .ok (.iload 6, 2) := by decide +kernel
theorem dX7_held_131 : decode cX7_held 131 = .ok (.iadd, 1) := by decide +kernel
theorem dX7_held_132 : decode cX7_held 132 = .ok (.iaload, 1) := by decide +kernel
theorem dX7_held_133 : decode cX7_held 133 = .ok (.invokevirtual 119, 3) := by decide +kernel
theorem dX7_held_136 : decode cX7_held 136 = .ok (.goto 4, 3) := by decide +kernel
theorem dX7_held_139 : decode cX7_held 139 = .ok (.iconst (-1), 1) := by decide +kernel
theorem dX7_held_140 : decode cX7_held 140 = .ok (.iastore, 1) := by decide +kernel
theorem dX7_held_141 : decode cX7_held 141 = .ok (.iinc 6 1, 3) := by decide +kernel
theorem dX7_held_144 : decode cX7_held 144 = .ok (.goto (-60), 3) := by decide +kernel
theorem dX7_held_147 : decode cX7_held 147 = .ok (.aload_n 0, 1) := by decide +kernel
theorem dX7_held_148 : decode cX7_held 148 = .ok (.invokevirtual 231, 3) := by decide +kernel
theorem dX7_held_151 : decode cX7_held 151 = .ok (.iconst 1, 1) := by decide +kernel
theorem dX7_held_152 : decode cX7_held 152 = .ok (.istore 6, 2) := by decide +kernel
theorem dX7_held_154 : decode cX7_held 154 = .ok (.iload 6, 2) := by decide +kernel
theorem dX7_held_156 : decode cX7_held 156 = .ok (.bipush 7, 2) := by decide +kernel
theorem dX7_held_158 : decode cX7_held 158 = .ok (.if_icmp .ge 23, 3) := by decide +kernel
theorem dX7_held_161 : decode cX7_held 161 = .ok (.aload_n 0, 1) := by decide +kernel
theorem dX7_held_162 : decode cX7_held 162 = .ok (.getfield 13, 3) := by decide +kernel
theorem dX7_held_165 : decode cX7_held 165 = .ok (.iload 6, 2) := by decide +kernel
theorem dX7_held_167 : decode cX7_held 167 = .ok (.aload_n 0, 1) := by decide +kernel
theorem dX7_held_168 : decode cX7_held 168 = .ok (.getfield 80, 3) := by decide +kernel
theorem dX7_held_171 : decode cX7_held 171 = .ok (.iload 6, 2) := by decide +kernel
theorem dX7_held_173 : decode cX7_held 173 = .ok (.iaload, 1) := by decide +kernel
theorem dX7_held_174 : decode cX7_held 174 = .ok (.iastore, 1) := by decide +kernel
theorem dX7_held_175 : decode cX7_held 175 = .ok (.iinc 6 1, 3) := by decide +kernel
theorem dX7_held_178 : decode cX7_held 178 = .ok (.goto (-24), 3) := by decide +kernel
theorem dX7_held_181 : decode cX7_held 181 = .ok (.iconst 0, 1) := by decide +kernel
theorem dX7_held_182 : decode cX7_held 182 = .ok (.istore 6, 2) := by decide +kernel
theorem dX7_held_184 : decode cX7_held 184 = .ok (.iconst 0, 1) := by decide +kernel
theorem dX7_held_185 : decode cX7_held 185 = .ok (.istore 7, 2) := by decide +kernel
theorem dX7_held_187 : decode cX7_held 187 = .ok (.iload 7, 2) := by decide +kernel
theorem dX7_held_189 : decode cX7_held 189 = .ok (.bipush 100, 2) := by decide +kernel
theorem dX7_held_191 : decode cX7_held 191 = .ok (.if_icmp .ge 49, 3) := by decide +kernel
theorem dX7_held_194 : decode cX7_held 194 = .ok (.iload 6, 2) := by decide +kernel
theorem dX7_held_196 : decode cX7_held 196 = .ok (.aload_n 0, 1) := by decide +kernel
theorem dX7_held_197 : decode cX7_held 197 = .ok (.getfield 73, 3) := by decide +kernel
theorem dX7_held_200 : decode cX7_held 200 = .ok (.iload 7, 2) := by decide +kernel
theorem dX7_held_202 : decode cX7_held 202 = .ok (.laload, 1) := by decide +kernel
theorem dX7_held_203 : decode cX7_held 203 = .ok (.aload_n 0, 1) := by decide +kernel
theorem dX7_held_204 : decode cX7_held 204 = .ok (.getfield 73, 3) := by decide +kernel
theorem dX7_held_207 : decode cX7_held 207 = .ok (.aload_n 0, 1) := by decide +kernel
theorem dX7_held_208 : decode cX7_held 208 = .ok (.getfield 92, 3) := by decide +kernel
theorem dX7_held_211 : decode cX7_held 211 = .ok (.iload 5, 2) := by decide +kernel
theorem dX7_held_213 : decode cX7_held 213 = .ok (.aload_n 0, 1) := by decide +kernel
theorem dX7_held_214 : decode cX7_held 214 = .ok (.getfield 7, 3) := by decide +kernel
theorem dX7_held_217 : decode cX7_held 217 = .ok (.iconst 2, 1) := by decide +kernel
theorem dX7_held_218 : decode cX7_held 218 = .ok (.iaload, 1) := by decide +kernel
theorem dX7_held_219 : decode cX7_held 219 = .ok (.iadd, 1) := by decide +kernel
theorem dX7_held_220 : decode cX7_held 220 = .ok (.iaload, 1) := by decide +kernel
theorem dX7_held_221 : decode cX7_held 221 = .ok (.laload, 1) := by decide +kernel
theorem dX7_held_222 : decode cX7_held 222 = .ok (.lcmp, 1) := by decide +kernel
theorem dX7_held_223 : decode cX7_held 223 = .ok (.ifCond .le 7, 3) := by decide +kernel
theorem dX7_held_226 : decode cX7_held 226 = .ok (.iconst 1, 1) := by decide +kernel
theorem dX7_held_227 : decode cX7_held 227 = .ok (.goto 4, 3) := by decide +kernel
theorem dX7_held_230 : decode cX7_held 230 = .ok (.iconst 0, 1) := by decide +kernel
theorem dX7_held_231 : decode cX7_held 231 = .ok (.iadd, 1) := by decide +kernel
theorem dX7_held_232 : decode cX7_held 232 = .ok (.istore 6, 2) := by decide +kernel
theorem dX7_held_234 : decode cX7_held 234 = .ok (.iinc 7 1, 3) := by decide +kernel
theorem dX7_held_237 : decode cX7_held 237 = .ok (.goto (-50), 3) := by decide +kernel
theorem dX7_held_240 : decode cX7_held 240 = .ok (.iload 6, 2) := by decide +kernel
theorem dX7_held_242 : decode cX7_held 242 = .ok (.ireturn, 1) := by decide +kernel
abbrev W_X7_held (cyI cyJ cyO : ClassId) (h_o a_o_sets a_o_ringFar a_o_ringTone a_o_currents a_o_warmths a_o_depths a_o_tape a_o_readFar a_o_readTone a_o_readSea a_o_code a_o_cellAt a_o_courseAt a_o_paceAt a_o_turnsAt a_o_slowAt a_o_fuelAt a_o_ringAt a_o_pieceParts a_o_dragCell a_o_dragBy a_o_sums a_o_shares a_o_keptFar a_o_image a_o_lanes a_o_sizes a_o_items a_o_movedItems : Nat) (o_taped : Int32) (o_at : Int32) (o_wrong : Int32) (o_level : Int32) (o_noRings : Int32) (o_noTones : Int32) (o_noFuel : Int32) (o_pieces : Int32) (o_drags : Int32) (o_all : Int64) (o_noPieces : Int32) (o_noDrags : Int32) (o_kept : Int32) (o_sets : Nat → Int32) (o_ringFar : Nat → Int32) (o_ringTone : Nat → Int32) (o_currents : Nat → Int32) (o_warmths : Nat → Int32) (o_code : Nat → Int32) (o_cellAt : Nat → Int32) (o_courseAt : Nat → Int32) (o_paceAt : Nat → Int32) (o_turnsAt : Nat → Int32) (o_slowAt : Nat → Int32) (o_fuelAt : Nat → Int32) (o_ringAt : Nat → Int32) (o_pieceParts : Nat → Int32) (o_dragCell : Nat → Int32) (o_dragBy : Nat → Int32) (o_sums : Nat → Int64) (o_keptFar : Nat → Int32) (o_lanes : Nat → Int32) (o_sizes : Nat → Int32) (o_items : Nat → Int32) : va_W := [(h_o, .inr (7, [.ref a_o_sets, .ref a_o_ringFar, .ref a_o_ringTone, .ref a_o_currents, .ref a_o_warmths, .ref a_o_depths, .ref a_o_tape, .int o_taped, .int o_at, .int o_wrong, .ref a_o_readFar, .ref a_o_readTone, .ref a_o_readSea, .ref a_o_code, .ref a_o_cellAt, .ref a_o_courseAt, .ref a_o_paceAt, .ref a_o_turnsAt, .ref a_o_slowAt, .ref a_o_fuelAt, .ref a_o_ringAt, .int o_level, .int o_noRings, .int o_noTones, .int o_noFuel, .int o_pieces, .ref a_o_pieceParts, .int o_drags, .ref a_o_dragCell, .ref a_o_dragBy, .ref a_o_sums, .long o_all, .int o_noPieces, .int o_noDrags, .ref a_o_shares, .ref a_o_keptFar, .ref a_o_image, .int o_kept, .ref a_o_lanes, .ref a_o_sizes, .ref a_o_items, .ref a_o_movedItems])), (a_o_sets, .inl (cyI, 8, .inl o_sets)), (a_o_ringFar, .inl (cyI, 7, .inl o_ringFar)), (a_o_ringTone, .inl (cyI, 7, .inl o_ringTone)), (a_o_currents, .inl (cyI, 200, .inl o_currents)), (a_o_warmths, .inl (cyI, 200, .inl o_warmths)), (a_o_code, .inl (cyI, 7, .inl o_code)), (a_o_cellAt, .inl (cyI, 7, .inl o_cellAt)), (a_o_courseAt, .inl (cyI, 7, .inl o_courseAt)), (a_o_paceAt, .inl (cyI, 7, .inl o_paceAt)), (a_o_turnsAt, .inl (cyI, 7, .inl o_turnsAt)), (a_o_slowAt, .inl (cyI, 7, .inl o_slowAt)), (a_o_fuelAt, .inl (cyI, 7, .inl o_fuelAt)), (a_o_ringAt, .inl (cyI, 7, .inl o_ringAt)), (a_o_pieceParts, .inl (cyI, 20, .inl o_pieceParts)), (a_o_dragCell, .inl (cyI, 6, .inl o_dragCell)), (a_o_dragBy, .inl (cyI, 6, .inl o_dragBy)), (a_o_sums, .inl (cyJ, 100, .inr (.inl o_sums))), (a_o_keptFar, .inl (cyI, 7, .inl o_keptFar)), (a_o_lanes, .inl (cyI, 4, .inl o_lanes)), (a_o_sizes, .inl (cyI, 4, .inl o_sizes)), (a_o_items, .inl (cyI, 64, .inl o_items))]
def f_X7_held_B231 (k187 : Int32 → Int32 → Int32 → Int32 → Int32 → Int32 → Int32 → Int32 → Int32 → Int64 → Int32 → Int32 → (Nat → Int32) → (Nat → Int32) → (Nat → Int32) → (Nat → Int32) → (Nat → Int32) → (Nat → Int32) → (Nat → Int32) → (Nat → Int32) → (Nat → Int32) → (Nat → Int32) → (Nat → Int32) → (Nat → Int32) → (Nat → Int32) → (Nat → Int32) → (Nat → Int32) → (Nat → Int32) → (Nat → Int64) → (Nat → Int32) → (Nat → Int32) → (Nat → Int32) → (Nat → Int32) → Option (Int32 × Int32 × Int32 × Int32 × Int32 × Int64 × Int32 × Int32 × (Nat → Int32) × (Nat → Int32) × (Nat → Int32) × (Nat → Int32) × (Nat → Int32) × (Nat → Int32) × (Nat → Int32) × (Nat → Int32) × (Nat → Int32) × (Nat → Int64) × (Nat → Int32))) (v5 : Int32) (v7 : Int32) (y0 : Int32) (y1 : Int32) (o_level : Int32) (o_noRings : Int32) (o_noTones : Int32) (o_noFuel : Int32) (o_pieces : Int32) (o_drags : Int32) (o_all : Int64) (o_noPieces : Int32) (o_noDrags : Int32) (o_sets : Nat → Int32) (o_ringFar : Nat → Int32) (o_ringTone : Nat → Int32) (o_currents : Nat → Int32) (o_warmths : Nat → Int32) (o_code : Nat → Int32) (o_cellAt : Nat → Int32) (o_courseAt : Nat → Int32) (o_paceAt : Nat → Int32) (o_turnsAt : Nat → Int32) (o_slowAt : Nat → Int32) (o_fuelAt : Nat → Int32) (o_ringAt : Nat → Int32) (o_pieceParts : Nat → Int32) (o_dragCell : Nat → Int32) (o_dragBy : Nat → Int32) (o_sums : Nat → Int64) (o_keptFar : Nat → Int32) (o_lanes : Nat → Int32) (o_sizes : Nat → Int32) (o_items : Nat → Int32) : Option (Int32 × Int32 × Int32 × Int32 × Int32 × Int64 × Int32 × Int32 × (Nat → Int32) × (Nat → Int32) × (Nat → Int32) × (Nat → Int32) × (Nat → Int32) × (Nat → Int32) × (Nat → Int32) × (Nat → Int32) × (Nat → Int32) × (Nat → Int64) × (Nat → Int32)) :=
  nm (y1 + y0) fun x_1 =>
  nm (v7 + 1) fun x_2 =>
  k187 v5 x_1 x_2 o_level o_noRings o_noTones o_noFuel o_pieces o_drags o_all o_noPieces o_noDrags o_sets o_ringFar o_ringTone o_currents o_warmths o_code o_cellAt o_courseAt o_paceAt o_turnsAt o_slowAt o_fuelAt o_ringAt o_pieceParts o_dragCell o_dragBy o_sums o_keptFar o_lanes o_sizes o_items
def f_X7_held_L187b (k187 : Int32 → Int32 → Int32 → Int32 → Int32 → Int32 → Int32 → Int32 → Int32 → Int64 → Int32 → Int32 → (Nat → Int32) → (Nat → Int32) → (Nat → Int32) → (Nat → Int32) → (Nat → Int32) → (Nat → Int32) → (Nat → Int32) → (Nat → Int32) → (Nat → Int32) → (Nat → Int32) → (Nat → Int32) → (Nat → Int32) → (Nat → Int32) → (Nat → Int32) → (Nat → Int32) → (Nat → Int32) → (Nat → Int64) → (Nat → Int32) → (Nat → Int32) → (Nat → Int32) → (Nat → Int32) → Option (Int32 × Int32 × Int32 × Int32 × Int32 × Int64 × Int32 × Int32 × (Nat → Int32) × (Nat → Int32) × (Nat → Int32) × (Nat → Int32) × (Nat → Int32) × (Nat → Int32) × (Nat → Int32) × (Nat → Int32) × (Nat → Int32) × (Nat → Int64) × (Nat → Int32))) (v5 : Int32) (v6 : Int32) (v7 : Int32) (o_level : Int32) (o_noRings : Int32) (o_noTones : Int32) (o_noFuel : Int32) (o_pieces : Int32) (o_drags : Int32) (o_all : Int64) (o_noPieces : Int32) (o_noDrags : Int32) (o_sets : Nat → Int32) (o_ringFar : Nat → Int32) (o_ringTone : Nat → Int32) (o_currents : Nat → Int32) (o_warmths : Nat → Int32) (o_code : Nat → Int32) (o_cellAt : Nat → Int32) (o_courseAt : Nat → Int32) (o_paceAt : Nat → Int32) (o_turnsAt : Nat → Int32) (o_slowAt : Nat → Int32) (o_fuelAt : Nat → Int32) (o_ringAt : Nat → Int32) (o_pieceParts : Nat → Int32) (o_dragCell : Nat → Int32) (o_dragBy : Nat → Int32) (o_sums : Nat → Int64) (o_keptFar : Nat → Int32) (o_lanes : Nat → Int32) (o_sizes : Nat → Int32) (o_items : Nat → Int32) : Option (Int32 × Int32 × Int32 × Int32 × Int32 × Int64 × Int32 × Int32 × (Nat → Int32) × (Nat → Int32) × (Nat → Int32) × (Nat → Int32) × (Nat → Int32) × (Nat → Int32) × (Nat → Int32) × (Nat → Int32) × (Nat → Int32) × (Nat → Int64) × (Nat → Int32)) :=
  if 100 ≤ v7 then
    some (v6, o_level, o_noRings, o_noTones, o_noFuel, o_all, o_noPieces, o_noDrags, o_ringFar, o_code, o_cellAt, o_courseAt, o_paceAt, o_turnsAt, o_slowAt, o_fuelAt, o_ringAt, o_sums, o_keptFar)
  else
    chk (¬ (v7 < 0 ∨ 100 ≤ v7.toNatClampNeg)) <|
    chk (¬ (v5 + (o_sets 2) < 0 ∨ 64 ≤ (v5 + (o_sets 2)).toNatClampNeg)) <|
    chk (¬ (o_items (v5 + (o_sets 2)).toNatClampNeg < 0 ∨ 100 ≤ (o_items (v5 + (o_sets 2)).toNatClampNeg).toNatClampNeg)) <|
    if (lg_cmp (o_sums v7.toNatClampNeg) (o_sums (o_items (v5 + (o_sets 2)).toNatClampNeg).toNatClampNeg)) ≤ 0 then
      f_X7_held_B231 k187 v5 v7 0 v6 o_level o_noRings o_noTones o_noFuel o_pieces o_drags o_all o_noPieces o_noDrags o_sets o_ringFar o_ringTone o_currents o_warmths o_code o_cellAt o_courseAt o_paceAt o_turnsAt o_slowAt o_fuelAt o_ringAt o_pieceParts o_dragCell o_dragBy o_sums o_keptFar o_lanes o_sizes o_items
    else
      f_X7_held_B231 k187 v5 v7 1 v6 o_level o_noRings o_noTones o_noFuel o_pieces o_drags o_all o_noPieces o_noDrags o_sets o_ringFar o_ringTone o_currents o_warmths o_code o_cellAt o_courseAt o_paceAt o_turnsAt o_slowAt o_fuelAt o_ringAt o_pieceParts o_dragCell o_dragBy o_sums o_keptFar o_lanes o_sizes o_items
def f_X7_held_L187 : Nat → Int32 → Int32 → Int32 → Int32 → Int32 → Int32 → Int32 → Int32 → Int32 → Int64 → Int32 → Int32 → (Nat → Int32) → (Nat → Int32) → (Nat → Int32) → (Nat → Int32) → (Nat → Int32) → (Nat → Int32) → (Nat → Int32) → (Nat → Int32) → (Nat → Int32) → (Nat → Int32) → (Nat → Int32) → (Nat → Int32) → (Nat → Int32) → (Nat → Int32) → (Nat → Int32) → (Nat → Int32) → (Nat → Int64) → (Nat → Int32) → (Nat → Int32) → (Nat → Int32) → (Nat → Int32) → Option (Int32 × Int32 × Int32 × Int32 × Int32 × Int64 × Int32 × Int32 × (Nat → Int32) × (Nat → Int32) × (Nat → Int32) × (Nat → Int32) × (Nat → Int32) × (Nat → Int32) × (Nat → Int32) × (Nat → Int32) × (Nat → Int32) × (Nat → Int64) × (Nat → Int32))
  | 0 => fun _ _ _ _ _ _ _ _ _ _ _ _ _ _ _ _ _ _ _ _ _ _ _ _ _ _ _ _ _ _ _ _ _ => none
  | n + 1 => f_X7_held_L187b (f_X7_held_L187 n)
def f_X7_held_L154b (k154 : Int32 → Int32 → Int32 → Int32 → Int32 → Int32 → Int32 → Int32 → Int64 → Int32 → Int32 → (Nat → Int32) → (Nat → Int32) → (Nat → Int32) → (Nat → Int32) → (Nat → Int32) → (Nat → Int32) → (Nat → Int32) → (Nat → Int32) → (Nat → Int32) → (Nat → Int32) → (Nat → Int32) → (Nat → Int32) → (Nat → Int32) → (Nat → Int32) → (Nat → Int32) → (Nat → Int32) → (Nat → Int64) → (Nat → Int32) → (Nat → Int32) → (Nat → Int32) → (Nat → Int32) → Option (Int32 × Int32 × Int32 × Int32 × Int32 × Int64 × Int32 × Int32 × (Nat → Int32) × (Nat → Int32) × (Nat → Int32) × (Nat → Int32) × (Nat → Int32) × (Nat → Int32) × (Nat → Int32) × (Nat → Int32) × (Nat → Int32) × (Nat → Int64) × (Nat → Int32))) (v5 : Int32) (v6 : Int32) (o_level : Int32) (o_noRings : Int32) (o_noTones : Int32) (o_noFuel : Int32) (o_pieces : Int32) (o_drags : Int32) (o_all : Int64) (o_noPieces : Int32) (o_noDrags : Int32) (o_sets : Nat → Int32) (o_ringFar : Nat → Int32) (o_ringTone : Nat → Int32) (o_currents : Nat → Int32) (o_warmths : Nat → Int32) (o_code : Nat → Int32) (o_cellAt : Nat → Int32) (o_courseAt : Nat → Int32) (o_paceAt : Nat → Int32) (o_turnsAt : Nat → Int32) (o_slowAt : Nat → Int32) (o_fuelAt : Nat → Int32) (o_ringAt : Nat → Int32) (o_pieceParts : Nat → Int32) (o_dragCell : Nat → Int32) (o_dragBy : Nat → Int32) (o_sums : Nat → Int64) (o_keptFar : Nat → Int32) (o_lanes : Nat → Int32) (o_sizes : Nat → Int32) (o_items : Nat → Int32) : Option (Int32 × Int32 × Int32 × Int32 × Int32 × Int64 × Int32 × Int32 × (Nat → Int32) × (Nat → Int32) × (Nat → Int32) × (Nat → Int32) × (Nat → Int32) × (Nat → Int32) × (Nat → Int32) × (Nat → Int32) × (Nat → Int32) × (Nat → Int64) × (Nat → Int32)) :=
  if 7 ≤ v6 then
    f_X7_held_L187 FU v5 0 0 o_level o_noRings o_noTones o_noFuel o_pieces o_drags o_all o_noPieces o_noDrags o_sets o_ringFar o_ringTone o_currents o_warmths o_code o_cellAt o_courseAt o_paceAt o_turnsAt o_slowAt o_fuelAt o_ringAt o_pieceParts o_dragCell o_dragBy o_sums o_keptFar o_lanes o_sizes o_items
  else
    chk (¬ (v6 < 0 ∨ 7 ≤ v6.toNatClampNeg)) <|
    nm (o_keptFar v6.toNatClampNeg) fun x_3 =>
    chk (¬ (v6 < 0 ∨ 7 ≤ v6.toNatClampNeg)) <|
    nm (v6 + 1) fun x_4 =>
    k154 v5 x_4 o_level o_noRings o_noTones o_noFuel o_pieces o_drags o_all o_noPieces o_noDrags o_sets (upd o_ringFar v6.toNatClampNeg x_3) o_ringTone o_currents o_warmths o_code o_cellAt o_courseAt o_paceAt o_turnsAt o_slowAt o_fuelAt o_ringAt o_pieceParts o_dragCell o_dragBy o_sums o_keptFar o_lanes o_sizes o_items
def f_X7_held_L154 : Nat → Int32 → Int32 → Int32 → Int32 → Int32 → Int32 → Int32 → Int32 → Int64 → Int32 → Int32 → (Nat → Int32) → (Nat → Int32) → (Nat → Int32) → (Nat → Int32) → (Nat → Int32) → (Nat → Int32) → (Nat → Int32) → (Nat → Int32) → (Nat → Int32) → (Nat → Int32) → (Nat → Int32) → (Nat → Int32) → (Nat → Int32) → (Nat → Int32) → (Nat → Int32) → (Nat → Int32) → (Nat → Int64) → (Nat → Int32) → (Nat → Int32) → (Nat → Int32) → (Nat → Int32) → Option (Int32 × Int32 × Int32 × Int32 × Int32 × Int64 × Int32 × Int32 × (Nat → Int32) × (Nat → Int32) × (Nat → Int32) × (Nat → Int32) × (Nat → Int32) × (Nat → Int32) × (Nat → Int32) × (Nat → Int32) × (Nat → Int32) × (Nat → Int64) × (Nat → Int32))
  | 0 => fun _ _ _ _ _ _ _ _ _ _ _ _ _ _ _ _ _ _ _ _ _ _ _ _ _ _ _ _ _ _ _ _ => none
  | n + 1 => f_X7_held_L154b (f_X7_held_L154 n)
def f_X7_held_B140 (k84 : Int32 → Int32 → Int32 → Int32 → Int32 → Int32 → Int32 → Int32 → Int64 → Int32 → Int32 → (Nat → Int32) → (Nat → Int32) → (Nat → Int32) → (Nat → Int32) → (Nat → Int32) → (Nat → Int32) → (Nat → Int32) → (Nat → Int32) → (Nat → Int32) → (Nat → Int32) → (Nat → Int32) → (Nat → Int32) → (Nat → Int32) → (Nat → Int32) → (Nat → Int32) → (Nat → Int32) → (Nat → Int64) → (Nat → Int32) → (Nat → Int32) → (Nat → Int32) → (Nat → Int32) → Option (Int32 × Int32 × Int32 × Int32 × Int32 × Int64 × Int32 × Int32 × (Nat → Int32) × (Nat → Int32) × (Nat → Int32) × (Nat → Int32) × (Nat → Int32) × (Nat → Int32) × (Nat → Int32) × (Nat → Int32) × (Nat → Int32) × (Nat → Int64) × (Nat → Int32))) (v5 : Int32) (v6 : Int32) (y0 : Int32) (y1 : Int32) (o_level : Int32) (o_noRings : Int32) (o_noTones : Int32) (o_noFuel : Int32) (o_pieces : Int32) (o_drags : Int32) (o_all : Int64) (o_noPieces : Int32) (o_noDrags : Int32) (o_sets : Nat → Int32) (o_ringFar : Nat → Int32) (o_ringTone : Nat → Int32) (o_currents : Nat → Int32) (o_warmths : Nat → Int32) (o_code : Nat → Int32) (o_cellAt : Nat → Int32) (o_courseAt : Nat → Int32) (o_paceAt : Nat → Int32) (o_turnsAt : Nat → Int32) (o_slowAt : Nat → Int32) (o_fuelAt : Nat → Int32) (o_ringAt : Nat → Int32) (o_pieceParts : Nat → Int32) (o_dragCell : Nat → Int32) (o_dragBy : Nat → Int32) (o_sums : Nat → Int64) (o_keptFar : Nat → Int32) (o_lanes : Nat → Int32) (o_sizes : Nat → Int32) (o_items : Nat → Int32) : Option (Int32 × Int32 × Int32 × Int32 × Int32 × Int64 × Int32 × Int32 × (Nat → Int32) × (Nat → Int32) × (Nat → Int32) × (Nat → Int32) × (Nat → Int32) × (Nat → Int32) × (Nat → Int32) × (Nat → Int32) × (Nat → Int32) × (Nat → Int64) × (Nat → Int32)) :=
  chk (¬ (y1 < 0 ∨ 7 ≤ y1.toNatClampNeg)) <|
  nm (v6 + 1) fun x_5 =>
  k84 v5 x_5 o_level o_noRings o_noTones o_noFuel o_pieces o_drags o_all o_noPieces o_noDrags o_sets (upd o_ringFar y1.toNatClampNeg y0) o_ringTone o_currents o_warmths o_code o_cellAt o_courseAt o_paceAt o_turnsAt o_slowAt o_fuelAt o_ringAt o_pieceParts o_dragCell o_dragBy o_sums o_keptFar o_lanes o_sizes o_items
def f_X7_held_L84b (k84 : Int32 → Int32 → Int32 → Int32 → Int32 → Int32 → Int32 → Int32 → Int64 → Int32 → Int32 → (Nat → Int32) → (Nat → Int32) → (Nat → Int32) → (Nat → Int32) → (Nat → Int32) → (Nat → Int32) → (Nat → Int32) → (Nat → Int32) → (Nat → Int32) → (Nat → Int32) → (Nat → Int32) → (Nat → Int32) → (Nat → Int32) → (Nat → Int32) → (Nat → Int32) → (Nat → Int32) → (Nat → Int64) → (Nat → Int32) → (Nat → Int32) → (Nat → Int32) → (Nat → Int32) → Option (Int32 × Int32 × Int32 × Int32 × Int32 × Int64 × Int32 × Int32 × (Nat → Int32) × (Nat → Int32) × (Nat → Int32) × (Nat → Int32) × (Nat → Int32) × (Nat → Int32) × (Nat → Int32) × (Nat → Int32) × (Nat → Int32) × (Nat → Int64) × (Nat → Int32))) (v5 : Int32) (v6 : Int32) (o_level : Int32) (o_noRings : Int32) (o_noTones : Int32) (o_noFuel : Int32) (o_pieces : Int32) (o_drags : Int32) (o_all : Int64) (o_noPieces : Int32) (o_noDrags : Int32) (o_sets : Nat → Int32) (o_ringFar : Nat → Int32) (o_ringTone : Nat → Int32) (o_currents : Nat → Int32) (o_warmths : Nat → Int32) (o_code : Nat → Int32) (o_cellAt : Nat → Int32) (o_courseAt : Nat → Int32) (o_paceAt : Nat → Int32) (o_turnsAt : Nat → Int32) (o_slowAt : Nat → Int32) (o_fuelAt : Nat → Int32) (o_ringAt : Nat → Int32) (o_pieceParts : Nat → Int32) (o_dragCell : Nat → Int32) (o_dragBy : Nat → Int32) (o_sums : Nat → Int64) (o_keptFar : Nat → Int32) (o_lanes : Nat → Int32) (o_sizes : Nat → Int32) (o_items : Nat → Int32) : Option (Int32 × Int32 × Int32 × Int32 × Int32 × Int64 × Int32 × Int32 × (Nat → Int32) × (Nat → Int32) × (Nat → Int32) × (Nat → Int32) × (Nat → Int32) × (Nat → Int32) × (Nat → Int32) × (Nat → Int32) × (Nat → Int32) × (Nat → Int64) × (Nat → Int32)) :=
  if 7 ≤ v6 then
    bd11 (f_X7_ends o_level o_noRings o_noTones o_noFuel o_pieces o_drags o_all o_noPieces o_noDrags o_sets o_ringFar o_ringTone o_currents o_warmths o_code o_cellAt o_courseAt o_paceAt o_turnsAt o_slowAt o_fuelAt o_ringAt o_pieceParts o_dragCell o_dragBy o_sums) fun w_6 w_7 w_8 w_9 w_10 w_11 w_12 w_13 w_14 w_15 w_16 =>
    f_X7_held_L154 FU v5 1 w_6 o_noRings o_noTones o_noFuel o_pieces o_drags w_7 o_noPieces o_noDrags o_sets o_ringFar o_ringTone o_currents o_warmths w_8 w_9 w_10 w_11 w_12 w_13 w_14 w_15 o_pieceParts o_dragCell o_dragBy w_16 o_keptFar o_lanes o_sizes o_items
  else
    chk (¬ (v6 < 0 ∨ 7 ≤ v6.toNatClampNeg)) <|
    nm (o_ringFar v6.toNatClampNeg) fun x_17 =>
    chk (¬ (v6 < 0 ∨ 7 ≤ v6.toNatClampNeg)) <|
    if (o_sets 2) < v6 then
      f_X7_held_B140 k84 v5 v6 (-1) v6 o_level o_noRings o_noTones o_noFuel o_pieces o_drags o_all o_noPieces o_noDrags o_sets o_ringFar o_ringTone o_currents o_warmths o_code o_cellAt o_courseAt o_paceAt o_turnsAt o_slowAt o_fuelAt o_ringAt o_pieceParts o_dragCell o_dragBy o_sums (upd o_keptFar v6.toNatClampNeg x_17) o_lanes o_sizes o_items
    else
      chk (¬ (v5 + v6 < 0 ∨ 64 ≤ (v5 + v6).toNatClampNeg)) <|
      bd1 (f_X7_away (o_items (v5 + v6).toNatClampNeg) o_sets) fun r_18 =>
      f_X7_held_B140 k84 v5 v6 r_18 v6 o_level o_noRings o_noTones o_noFuel o_pieces o_drags o_all o_noPieces o_noDrags o_sets o_ringFar o_ringTone o_currents o_warmths o_code o_cellAt o_courseAt o_paceAt o_turnsAt o_slowAt o_fuelAt o_ringAt o_pieceParts o_dragCell o_dragBy o_sums (upd o_keptFar v6.toNatClampNeg x_17) o_lanes o_sizes o_items
def f_X7_held_L84 : Nat → Int32 → Int32 → Int32 → Int32 → Int32 → Int32 → Int32 → Int32 → Int64 → Int32 → Int32 → (Nat → Int32) → (Nat → Int32) → (Nat → Int32) → (Nat → Int32) → (Nat → Int32) → (Nat → Int32) → (Nat → Int32) → (Nat → Int32) → (Nat → Int32) → (Nat → Int32) → (Nat → Int32) → (Nat → Int32) → (Nat → Int32) → (Nat → Int32) → (Nat → Int32) → (Nat → Int32) → (Nat → Int64) → (Nat → Int32) → (Nat → Int32) → (Nat → Int32) → (Nat → Int32) → Option (Int32 × Int32 × Int32 × Int32 × Int32 × Int64 × Int32 × Int32 × (Nat → Int32) × (Nat → Int32) × (Nat → Int32) × (Nat → Int32) × (Nat → Int32) × (Nat → Int32) × (Nat → Int32) × (Nat → Int32) × (Nat → Int32) × (Nat → Int64) × (Nat → Int32))
  | 0 => fun _ _ _ _ _ _ _ _ _ _ _ _ _ _ _ _ _ _ _ _ _ _ _ _ _ _ _ _ _ _ _ _ => none
  | n + 1 => f_X7_held_L84b (f_X7_held_L84 n)
def f_X7_held (x1 : Int32) (x2 : Int32) (x3 : Int32) (o_level : Int32) (o_noRings : Int32) (o_noTones : Int32) (o_noFuel : Int32) (o_pieces : Int32) (o_drags : Int32) (o_all : Int64) (o_noPieces : Int32) (o_noDrags : Int32) (o_sets : Nat → Int32) (o_ringFar : Nat → Int32) (o_ringTone : Nat → Int32) (o_currents : Nat → Int32) (o_warmths : Nat → Int32) (o_code : Nat → Int32) (o_cellAt : Nat → Int32) (o_courseAt : Nat → Int32) (o_paceAt : Nat → Int32) (o_turnsAt : Nat → Int32) (o_slowAt : Nat → Int32) (o_fuelAt : Nat → Int32) (o_ringAt : Nat → Int32) (o_pieceParts : Nat → Int32) (o_dragCell : Nat → Int32) (o_dragBy : Nat → Int32) (o_sums : Nat → Int64) (o_keptFar : Nat → Int32) (o_lanes : Nat → Int32) (o_sizes : Nat → Int32) (o_items : Nat → Int32) : Option (Int32 × Int32 × Int32 × Int32 × Int32 × Int64 × Int32 × Int32 × (Nat → Int32) × (Nat → Int32) × (Nat → Int32) × (Nat → Int32) × (Nat → Int32) × (Nat → Int32) × (Nat → Int32) × (Nat → Int32) × (Nat → Int32) × (Nat → Int64) × (Nat → Int32)) :=
  bd1 (f_X7_isSheet x1) fun r_19 =>
  if r_19 = 0 then
    some ((-1), o_level, o_noRings, o_noTones, o_noFuel, o_all, o_noPieces, o_noDrags, o_ringFar, o_code, o_cellAt, o_courseAt, o_paceAt, o_turnsAt, o_slowAt, o_fuelAt, o_ringAt, o_sums, o_keptFar)
  else
    bd1 (f_X7_isLane x2) fun r_20 =>
    if r_20 = 0 then
      some ((-1), o_level, o_noRings, o_noTones, o_noFuel, o_all, o_noPieces, o_noDrags, o_ringFar, o_code, o_cellAt, o_courseAt, o_paceAt, o_turnsAt, o_slowAt, o_fuelAt, o_ringAt, o_sums, o_keptFar)
    else
      bd1 (f_X7_refuses x1 x2 x3 ((o_sets 2) + 1) o_lanes o_sizes) fun r_21 =>
      if 0 ≤ r_21 then
        nm ((16 * x1) + x3) fun x_22 =>
        bd13 (f_X7_isKnown x_22 o_level o_noRings o_noTones o_noFuel o_sets o_ringFar o_ringTone o_code o_cellAt o_courseAt o_paceAt o_turnsAt o_slowAt o_fuelAt o_ringAt o_items) fun r_23 w_24 w_25 w_26 w_27 w_28 w_29 w_30 w_31 w_32 w_33 w_34 w_35 =>
        if r_23 = 0 then
          some ((-2), w_24, w_25, w_26, w_27, o_all, o_noPieces, o_noDrags, o_ringFar, w_28, w_29, w_30, w_31, w_32, w_33, w_34, w_35, o_sums, o_keptFar)
        else
          bd3 (f_X7_asTold w_25 w_26 w_27) fun w_36 w_37 w_38 =>
          f_X7_held_L84 FU x_22 1 w_24 w_36 1 w_38 o_pieces o_drags o_all 15 1 o_sets o_ringFar o_ringTone o_currents o_warmths w_28 w_29 w_30 w_31 w_32 w_33 w_34 w_35 o_pieceParts o_dragCell o_dragBy o_sums o_keptFar o_lanes o_sizes o_items
      else
        some (r_21, o_level, o_noRings, o_noTones, o_noFuel, o_all, o_noPieces, o_noDrags, o_ringFar, o_code, o_cellAt, o_courseAt, o_paceAt, o_turnsAt, o_slowAt, o_fuelAt, o_ringAt, o_sums, o_keptFar)
abbrev rm_X7_held : Room := { frames := 5, cells := 0, slots := 0, locals := 128 }
set_option maxRecDepth 100000 in
set_option maxHeartbeats 4000000 in
theorem c_X7_held (l : Launch) (dC : Nat → ClassId) (dI : Nat → Nat → Nat) (cyI cyJ cyO : ClassId) (sz : Nat) (h_o a_o_sets a_o_ringFar a_o_ringTone a_o_currents a_o_warmths a_o_depths a_o_tape a_o_readFar a_o_readTone a_o_readSea a_o_code a_o_cellAt a_o_courseAt a_o_paceAt a_o_turnsAt a_o_slowAt a_o_fuelAt a_o_ringAt a_o_pieceParts a_o_dragCell a_o_dragBy a_o_sums a_o_shares a_o_keptFar a_o_image a_o_lanes a_o_sizes a_o_items a_o_movedItems : Nat) (o_taped : Int32) (o_at : Int32) (o_wrong : Int32) (o_level : Int32) (o_noRings : Int32) (o_noTones : Int32) (o_noFuel : Int32) (o_pieces : Int32) (o_drags : Int32) (o_all : Int64) (o_noPieces : Int32) (o_noDrags : Int32) (o_kept : Int32) (o_sets : Nat → Int32) (o_ringFar : Nat → Int32) (o_ringTone : Nat → Int32) (o_currents : Nat → Int32) (o_warmths : Nat → Int32) (o_code : Nat → Int32) (o_cellAt : Nat → Int32) (o_courseAt : Nat → Int32) (o_paceAt : Nat → Int32) (o_turnsAt : Nat → Int32) (o_slowAt : Nat → Int32) (o_fuelAt : Nat → Int32) (o_ringAt : Nat → Int32) (o_pieceParts : Nat → Int32) (o_dragCell : Nat → Int32) (o_dragBy : Nat → Int32) (o_sums : Nat → Int64) (o_keptFar : Nat → Int32) (o_lanes : Nat → Int32) (o_sizes : Nat → Int32) (o_items : Nat → Int32) (x1 : Int32) (x2 : Int32) (x3 : Int32) (post : (Int32 × Int32 × Int32 × Int32 × Int32 × Int64 × Int32 × Int32 × (Nat → Int32) × (Nat → Int32) × (Nat → Int32) × (Nat → Int32) × (Nat → Int32) × (Nat → Int32) × (Nat → Int32) × (Nat → Int32) × (Nat → Int32) × (Nat → Int64) × (Nat → Int32)) → Prop) (hf : okP (f_X7_held x1 x2 x3 o_level o_noRings o_noTones o_noFuel o_pieces o_drags o_all o_noPieces o_noDrags o_sets o_ringFar o_ringTone o_currents o_warmths o_code o_cellAt o_courseAt o_paceAt o_turnsAt o_slowAt o_fuelAt o_ringAt o_pieceParts o_dragCell o_dragBy o_sums o_keptFar o_lanes o_sizes o_items) post) : Ci l (dC, dI) (tyL cyI cyJ cyO) yX7_held wsX7_held rm_X7_held [.ref h_o, .int x1, .int x2, .int x3] sz (W_X7_held cyI cyJ cyO h_o a_o_sets a_o_ringFar a_o_ringTone a_o_currents a_o_warmths a_o_depths a_o_tape a_o_readFar a_o_readTone a_o_readSea a_o_code a_o_cellAt a_o_courseAt a_o_paceAt a_o_turnsAt a_o_slowAt a_o_fuelAt a_o_ringAt a_o_pieceParts a_o_dragCell a_o_dragBy a_o_sums a_o_shares a_o_keptFar a_o_image a_o_lanes a_o_sizes a_o_items a_o_movedItems o_taped o_at o_wrong o_level o_noRings o_noTones o_noFuel o_pieces o_drags o_all o_noPieces o_noDrags o_kept o_sets o_ringFar o_ringTone o_currents o_warmths o_code o_cellAt o_courseAt o_paceAt o_turnsAt o_slowAt o_fuelAt o_ringAt o_pieceParts o_dragCell o_dragBy o_sums o_keptFar o_lanes o_sizes o_items) zN (fun r u => post (r, u)) (fun u => (W_X7_held cyI cyJ cyO h_o a_o_sets a_o_ringFar a_o_ringTone a_o_currents a_o_warmths a_o_depths a_o_tape a_o_readFar a_o_readTone a_o_readSea a_o_code a_o_cellAt a_o_courseAt a_o_paceAt a_o_turnsAt a_o_slowAt a_o_fuelAt a_o_ringAt a_o_pieceParts a_o_dragCell a_o_dragBy a_o_sums a_o_shares a_o_keptFar a_o_image a_o_lanes a_o_sizes a_o_items a_o_movedItems o_taped o_at o_wrong u.1 u.2.1 u.2.2.1 u.2.2.2.1 o_pieces o_drags u.2.2.2.2.1 u.2.2.2.2.2.1 u.2.2.2.2.2.2.1 o_kept o_sets u.2.2.2.2.2.2.2.1 o_ringTone o_currents o_warmths u.2.2.2.2.2.2.2.2.1 u.2.2.2.2.2.2.2.2.2.1 u.2.2.2.2.2.2.2.2.2.2.1 u.2.2.2.2.2.2.2.2.2.2.2.1 u.2.2.2.2.2.2.2.2.2.2.2.2.1 u.2.2.2.2.2.2.2.2.2.2.2.2.2.1 u.2.2.2.2.2.2.2.2.2.2.2.2.2.2.1 u.2.2.2.2.2.2.2.2.2.2.2.2.2.2.2.1 o_pieceParts o_dragCell o_dragBy u.2.2.2.2.2.2.2.2.2.2.2.2.2.2.2.2.1 u.2.2.2.2.2.2.2.2.2.2.2.2.2.2.2.2.2 o_lanes o_sizes o_items)) := by
  refine Met.ofW (cc := cX7_held) (maxL := 8) (ret := (some .int)) (by decide) rfl ?_
  intro p e s m args below meth c s₁ B hml hv
  obtain ⟨rfl, hsz, hP, hK, hD0, hZ⟩ := hv
  have hx := B.exec
  have hb := B.bytes
  have hr := B.returns
  have hts := atoms_spec (ws := wsX7_held) B.pre
  have hown : s.vm.findClass RX7 = some m.cls := findClass_of_methodNamed B.named
  have hlocks := B.notSynchronized
  subst hsz
  have hD := hD0.self (sz := s.heap.size)
  generalize hAe : va_A (W_X7_held cyI cyJ cyO h_o a_o_sets a_o_ringFar a_o_ringTone a_o_currents a_o_warmths a_o_depths a_o_tape a_o_readFar a_o_readTone a_o_readSea a_o_code a_o_cellAt a_o_courseAt a_o_paceAt a_o_turnsAt a_o_slowAt a_o_fuelAt a_o_ringAt a_o_pieceParts a_o_dragCell a_o_dragBy a_o_sums a_o_shares a_o_keptFar a_o_image a_o_lanes a_o_sizes a_o_items a_o_movedItems o_taped o_at o_wrong o_level o_noRings o_noTones o_noFuel o_pieces o_drags o_all o_noPieces o_noDrags o_kept o_sets o_ringFar o_ringTone o_currents o_warmths o_code o_cellAt o_courseAt o_paceAt o_turnsAt o_slowAt o_fuelAt o_ringAt o_pieceParts o_dragCell o_dragBy o_sums o_keptFar o_lanes o_sizes o_items) s.heap.size = A at hD hZ ⊢
  have hA : ∀ q : Nat, s.heap.size ≤ q → A q := fun q h => by rw [← hAe]; exact Or.inr h
  clear hAe hD0
  have hS : va_S A s.heap s.heap [] := va_S.rf
  have hl := lv_entry ([.ref h_o, .int x1, .int x2, .int x3]) (n := 8) (Nat.le_of_ble_eq_true rfl)
  rw [lg_entry_eq]
  generalize (lg_sl ([.ref h_o, .int x1, .int x2, .int x3]) ++ List.replicate (8 - (lg_sl ([.ref h_o, .int x1, .int x2, .int x3])).length) Slot.unset).toArray = ls at hl ⊢
  have hl : lv_has ls 8 [(0, .ref h_o), (1, .int x1), (2, .int x2), (3, .int x3)] := hl
  refine kW (fun Q hQ => ?_)
  have hq0 := hts _ (List.mem_cons_of_mem _ q_736)
  have hi7 : ∀ w ∈ u_ws RX7 TX7 42, w ∈ wsX7_held := fun w h => List.mem_cons_of_mem _ (inX7 w h)
  have hq2 := hts _ (List.mem_cons_of_mem _ q_746)
  have hq3 := hts _ (List.mem_cons_of_mem _ q_706)
  have hq4 := hts _ (List.mem_cons_of_mem _ q_707)
  have hq5 := hts _ (List.mem_cons_of_mem _ q_741)
  have hq6 := hts _ (List.mem_cons_of_mem _ q_729)
  have hq7 := hts _ (List.mem_cons_of_mem _ q_738)
  have hq8 := hts _ (List.mem_cons_of_mem _ q_739)
  have hw := hf
  have w187 : ∀ (n : Nat), ∀ (v5 : Int32) (v6 : Int32) (v7 : Int32) (o_level : Int32) (o_noRings : Int32) (o_noTones : Int32) (o_noFuel : Int32) (o_all : Int64) (o_noPieces : Int32) (o_noDrags : Int32) (o_ringFar : Nat → Int32) (o_code : Nat → Int32) (o_cellAt : Nat → Int32) (o_courseAt : Nat → Int32) (o_paceAt : Nat → Int32) (o_turnsAt : Nat → Int32) (o_slowAt : Nat → Int32) (o_fuelAt : Nat → Int32) (o_ringAt : Nat → Int32) (o_sums : Nat → Int64) (o_keptFar : Nat → Int32) (H : Heap) (locs : List Loc), va_P (dC, dI) vwCl (W_X7_held cyI cyJ cyO h_o a_o_sets a_o_ringFar a_o_ringTone a_o_currents a_o_warmths a_o_depths a_o_tape a_o_readFar a_o_readTone a_o_readSea a_o_code a_o_cellAt a_o_courseAt a_o_paceAt a_o_turnsAt a_o_slowAt a_o_fuelAt a_o_ringAt a_o_pieceParts a_o_dragCell a_o_dragBy a_o_sums a_o_shares a_o_keptFar a_o_image a_o_lanes a_o_sizes a_o_items a_o_movedItems o_taped o_at o_wrong o_level o_noRings o_noTones o_noFuel o_pieces o_drags o_all o_noPieces o_noDrags o_kept o_sets o_ringFar o_ringTone o_currents o_warmths o_code o_cellAt o_courseAt o_paceAt o_turnsAt o_slowAt o_fuelAt o_ringAt o_pieceParts o_dragCell o_dragBy o_sums o_keptFar o_lanes o_sizes o_items) H → va_D A (W_X7_held cyI cyJ cyO h_o a_o_sets a_o_ringFar a_o_ringTone a_o_currents a_o_warmths a_o_depths a_o_tape a_o_readFar a_o_readTone a_o_readSea a_o_code a_o_cellAt a_o_courseAt a_o_paceAt a_o_turnsAt a_o_slowAt a_o_fuelAt a_o_ringAt a_o_pieceParts a_o_dragCell a_o_dragBy a_o_sums a_o_shares a_o_keptFar a_o_image a_o_lanes a_o_sizes a_o_items a_o_movedItems o_taped o_at o_wrong o_level o_noRings o_noTones o_noFuel o_pieces o_drags o_all o_noPieces o_noDrags o_kept o_sets o_ringFar o_ringTone o_currents o_warmths o_code o_cellAt o_courseAt o_paceAt o_turnsAt o_slowAt o_fuelAt o_ringAt o_pieceParts o_dragCell o_dragBy o_sums o_keptFar o_lanes o_sizes o_items) → va_S A s.heap H locs → ∀ (ls : Array Slot), lv_has ls 8 [(0, .ref h_o), (5, .int v5), (6, .int v6), (7, .int v7)] → okP (f_X7_held_L187 n v5 v6 v7 o_level o_noRings o_noTones o_noFuel o_pieces o_drags o_all o_noPieces o_noDrags o_sets o_ringFar o_ringTone o_currents o_warmths o_code o_cellAt o_courseAt o_paceAt o_turnsAt o_slowAt o_fuelAt o_ringAt o_pieceParts o_dragCell o_dragBy o_sums o_keptFar o_lanes o_sizes o_items) post → W p l e (headSpec wsX7_held rm_X7_held).room s m ([.ref h_o, .int x1, .int x2, .int x3] : List Value).toArray below meth c H locs 0 0 Q (F0 m 187 ls []) := by
    intro n
    induction n with
    | zero =>
      intro v5 v6 v7 o_level o_noRings o_noTones o_noFuel o_all o_noPieces o_noDrags o_ringFar o_code o_cellAt o_courseAt o_paceAt o_turnsAt o_slowAt o_fuelAt o_ringAt o_sums o_keptFar H locs hP hD hS ls hl hw
      exact (ok0 hw).elim
    | succ n187 ih187 =>
      have w231 : ∀ (v5 : Int32) (v7 : Int32) (y0 : Int32) (y1 : Int32) (o_level : Int32) (o_noRings : Int32) (o_noTones : Int32) (o_noFuel : Int32) (o_all : Int64) (o_noPieces : Int32) (o_noDrags : Int32) (o_ringFar : Nat → Int32) (o_code : Nat → Int32) (o_cellAt : Nat → Int32) (o_courseAt : Nat → Int32) (o_paceAt : Nat → Int32) (o_turnsAt : Nat → Int32) (o_slowAt : Nat → Int32) (o_fuelAt : Nat → Int32) (o_ringAt : Nat → Int32) (o_sums : Nat → Int64) (o_keptFar : Nat → Int32) (H : Heap) (locs : List Loc), va_P (dC, dI) vwCl (W_X7_held cyI cyJ cyO h_o a_o_sets a_o_ringFar a_o_ringTone a_o_currents a_o_warmths a_o_depths a_o_tape a_o_readFar a_o_readTone a_o_readSea a_o_code a_o_cellAt a_o_courseAt a_o_paceAt a_o_turnsAt a_o_slowAt a_o_fuelAt a_o_ringAt a_o_pieceParts a_o_dragCell a_o_dragBy a_o_sums a_o_shares a_o_keptFar a_o_image a_o_lanes a_o_sizes a_o_items a_o_movedItems o_taped o_at o_wrong o_level o_noRings o_noTones o_noFuel o_pieces o_drags o_all o_noPieces o_noDrags o_kept o_sets o_ringFar o_ringTone o_currents o_warmths o_code o_cellAt o_courseAt o_paceAt o_turnsAt o_slowAt o_fuelAt o_ringAt o_pieceParts o_dragCell o_dragBy o_sums o_keptFar o_lanes o_sizes o_items) H → va_D A (W_X7_held cyI cyJ cyO h_o a_o_sets a_o_ringFar a_o_ringTone a_o_currents a_o_warmths a_o_depths a_o_tape a_o_readFar a_o_readTone a_o_readSea a_o_code a_o_cellAt a_o_courseAt a_o_paceAt a_o_turnsAt a_o_slowAt a_o_fuelAt a_o_ringAt a_o_pieceParts a_o_dragCell a_o_dragBy a_o_sums a_o_shares a_o_keptFar a_o_image a_o_lanes a_o_sizes a_o_items a_o_movedItems o_taped o_at o_wrong o_level o_noRings o_noTones o_noFuel o_pieces o_drags o_all o_noPieces o_noDrags o_kept o_sets o_ringFar o_ringTone o_currents o_warmths o_code o_cellAt o_courseAt o_paceAt o_turnsAt o_slowAt o_fuelAt o_ringAt o_pieceParts o_dragCell o_dragBy o_sums o_keptFar o_lanes o_sizes o_items) → va_S A s.heap H locs → ∀ (ls : Array Slot), lv_has ls 8 [(0, .ref h_o), (5, .int v5), (7, .int v7)] → okP (f_X7_held_B231 (f_X7_held_L187 n187) v5 v7 y0 y1 o_level o_noRings o_noTones o_noFuel o_pieces o_drags o_all o_noPieces o_noDrags o_sets o_ringFar o_ringTone o_currents o_warmths o_code o_cellAt o_courseAt o_paceAt o_turnsAt o_slowAt o_fuelAt o_ringAt o_pieceParts o_dragCell o_dragBy o_sums o_keptFar o_lanes o_sizes o_items) post → W p l e (headSpec wsX7_held rm_X7_held).room s m ([.ref h_o, .int x1, .int x2, .int x3] : List Value).toArray below meth c H locs 0 0 Q (F0 m 231 ls [.int y0, .int y1]) := by
        intro v5 v7 y0 y1 o_level o_noRings o_noTones o_noFuel o_all o_noPieces o_noDrags o_ringFar o_code o_cellAt o_courseAt o_paceAt o_turnsAt o_slowAt o_fuelAt o_ringAt o_sums o_keptFar H locs hP hD hS ls hl hw
        unfold f_X7_held_B231 at hw
        refine lv_iadd hx hb dX7_held_231 ?_
        refine lv_topi (fun x_1 ex_1 => ?_)
        replace hw := okN ex_1 hw
        clear ex_1
        refine lv_istore (lv' := [(6, .int x_1), (0, .ref h_o), (5, .int v5), (7, .int v7)]) hx hb dX7_held_232 hl (by decide) rfl (fun ls hl => ?_)
        obtain ⟨x_2, ex_2⟩ : ∃ y : Int32, y = v7 + 1 := ⟨_, rfl⟩
        replace hw := okN ex_2 hw
        refine lv_iinc (v := x_2) (lv' := [(7, .int x_2), (6, .int x_1), (0, .ref h_o), (5, .int v5)]) hx hb dX7_held_234 hl (k := 3) rfl (by rw [ex_2]; rfl) (by decide) rfl (fun ls hl => ?_)
        clear ex_2
        refine lv_goto (tgt := 187) hx hb dX7_held_237 (by decide) ?_
        exact ih187 v5 x_1 x_2 o_level o_noRings o_noTones o_noFuel o_all o_noPieces o_noDrags o_ringFar o_code o_cellAt o_courseAt o_paceAt o_turnsAt o_slowAt o_fuelAt o_ringAt o_sums o_keptFar _ _ hP hD hS _ (lv_sub hl [2, 3, 1, 0] rfl) hw
      intro v5 v6 v7 o_level o_noRings o_noTones o_noFuel o_all o_noPieces o_noDrags o_ringFar o_code o_cellAt o_courseAt o_paceAt o_turnsAt o_slowAt o_fuelAt o_ringAt o_sums o_keptFar H locs hP hD hS ls hl hw
      replace hw : okP (f_X7_held_L187b (f_X7_held_L187 n187) v5 v6 v7 o_level o_noRings o_noTones o_noFuel o_pieces o_drags o_all o_noPieces o_noDrags o_sets o_ringFar o_ringTone o_currents o_warmths o_code o_cellAt o_courseAt o_paceAt o_turnsAt o_slowAt o_fuelAt o_ringAt o_pieceParts o_dragCell o_dragBy o_sums o_keptFar o_lanes o_sizes o_items) post := hw
      unfold f_X7_held_L187b at hw
      refine lv_iload hx hb dX7_held_187 (lv_at hl 3 rfl) ?_
      refine lv_bipush (v := 100) hx hb dX7_held_189 (by decide) ?_
      refine lv_icmp_ge (tgt := 240) hx hb dX7_held_191 (by decide) (fun c_3 => ?_) (fun c_3 => ?_)
      · replace hw := okT hw c_3
        clear c_3
        refine lv_iload hx hb dX7_held_240 (lv_at hl 2 rfl) ?_
        rw [hQ]
        exact W.iret (v := v6) hx hb hr (fun t ht hW => ⟨⟨v6, (o_level, o_noRings, o_noTones, o_noFuel, o_all, o_noPieces, o_noDrags, o_ringFar, o_code, o_cellAt, o_courseAt, o_paceAt, o_turnsAt, o_slowAt, o_fuelAt, o_ringAt, o_sums, o_keptFar), rfl, okS hw, by rw [ht]; exact hP, va_K.moved hW.alike hK, hD⟩, hS.F ht⟩) hS.2.2 dX7_held_242
      · replace hw := okF hw c_3
        clear c_3
        refine lv_iload hx hb dX7_held_194 (lv_at hl 2 rfl) ?_
        refine lv_aload_n hx hb dX7_held_196 rfl (lv_at hl 0 rfl) ?_
        refine va_get (D := (dC, dI)) (ci := 7) (v := .ref a_o_sums) (C := RX7) (T := TX7) (N := 42) hx hb hts hi7 hown hK hP 0 rfl rfl 30 (by decide) hq0 (fun _ h9 => h9) rfl dX7_held_197 ?_
        refine lv_iload hx hb dX7_held_200 (lv_at hl 3 rfl) ?_
        obtain ⟨h_4, hw⟩ := okC hw
        refine va_lald (i := v7) hx hb hK hP 17 1 rfl rfl h_4 dX7_held_202 ?_
        refine lv_aload_n hx hb dX7_held_203 rfl (lv_at hl 0 rfl) ?_
        refine va_get (D := (dC, dI)) (ci := 7) (v := .ref a_o_sums) (C := RX7) (T := TX7) (N := 42) hx hb hts hi7 hown hK hP 0 rfl rfl 30 (by decide) hq0 (fun _ h9 => h9) rfl dX7_held_204 ?_
        refine lv_aload_n hx hb dX7_held_207 rfl (lv_at hl 0 rfl) ?_
        refine va_get (D := (dC, dI)) (ci := 7) (v := .ref a_o_items) (C := RX7) (T := TX7) (N := 42) hx hb hts hi7 hown hK hP 0 rfl rfl 40 (by decide) hq2 (fun _ h9 => h9) rfl dX7_held_208 ?_
        refine lv_iload hx hb dX7_held_211 (lv_at hl 1 rfl) ?_
        refine lv_aload_n hx hb dX7_held_213 rfl (lv_at hl 0 rfl) ?_
        refine va_get (D := (dC, dI)) (ci := 7) (v := .ref a_o_sets) (C := RX7) (T := TX7) (N := 42) hx hb hts hi7 hown hK hP 0 rfl rfl 0 (by decide) hq3 (fun _ h9 => h9) rfl dX7_held_214 ?_
        refine lv_iconst (v := 2) hx hb dX7_held_217 (by decide) ?_
        refine va_iald (i := 2) hx hb hK hP 1 0 rfl rfl (show ¬ _ by decide) dX7_held_218 ?_
        refine lv_iadd hx hb dX7_held_219 ?_
        obtain ⟨h_5, hw⟩ := okC hw
        refine va_iald (i := v5 + (o_sets 2)) hx hb hK hP 21 0 rfl rfl h_5 dX7_held_220 ?_
        obtain ⟨h_6, hw⟩ := okC hw
        refine va_lald (i := o_items (v5 + (o_sets 2)).toNatClampNeg) hx hb hK hP 17 1 rfl rfl h_6 dX7_held_221 ?_
        refine W.lcmp hx hb dX7_held_222 ?_
        refine lv_if_le (tgt := 230) hx hb dX7_held_223 (by decide) (fun c_7 => ?_) (fun c_7 => ?_)
        · replace hw := okT hw c_7
          clear c_7
          refine lv_iconst (v := 0) hx hb dX7_held_230 (by decide) ?_
          exact w231 v5 v7 0 v6 o_level o_noRings o_noTones o_noFuel o_all o_noPieces o_noDrags o_ringFar o_code o_cellAt o_courseAt o_paceAt o_turnsAt o_slowAt o_fuelAt o_ringAt o_sums o_keptFar _ _ hP hD hS _ (lv_sub hl [0, 1, 3] rfl) hw
        · replace hw := okF hw c_7
          clear c_7
          refine lv_iconst (v := 1) hx hb dX7_held_226 (by decide) ?_
          refine lv_goto (tgt := 231) hx hb dX7_held_227 (by decide) ?_
          exact w231 v5 v7 1 v6 o_level o_noRings o_noTones o_noFuel o_all o_noPieces o_noDrags o_ringFar o_code o_cellAt o_courseAt o_paceAt o_turnsAt o_slowAt o_fuelAt o_ringAt o_sums o_keptFar _ _ hP hD hS _ (lv_sub hl [0, 1, 3] rfl) hw
  have w154 : ∀ (n : Nat), ∀ (v5 : Int32) (v6 : Int32) (o_level : Int32) (o_noRings : Int32) (o_noTones : Int32) (o_noFuel : Int32) (o_all : Int64) (o_noPieces : Int32) (o_noDrags : Int32) (o_ringFar : Nat → Int32) (o_code : Nat → Int32) (o_cellAt : Nat → Int32) (o_courseAt : Nat → Int32) (o_paceAt : Nat → Int32) (o_turnsAt : Nat → Int32) (o_slowAt : Nat → Int32) (o_fuelAt : Nat → Int32) (o_ringAt : Nat → Int32) (o_sums : Nat → Int64) (o_keptFar : Nat → Int32) (H : Heap) (locs : List Loc), va_P (dC, dI) vwCl (W_X7_held cyI cyJ cyO h_o a_o_sets a_o_ringFar a_o_ringTone a_o_currents a_o_warmths a_o_depths a_o_tape a_o_readFar a_o_readTone a_o_readSea a_o_code a_o_cellAt a_o_courseAt a_o_paceAt a_o_turnsAt a_o_slowAt a_o_fuelAt a_o_ringAt a_o_pieceParts a_o_dragCell a_o_dragBy a_o_sums a_o_shares a_o_keptFar a_o_image a_o_lanes a_o_sizes a_o_items a_o_movedItems o_taped o_at o_wrong o_level o_noRings o_noTones o_noFuel o_pieces o_drags o_all o_noPieces o_noDrags o_kept o_sets o_ringFar o_ringTone o_currents o_warmths o_code o_cellAt o_courseAt o_paceAt o_turnsAt o_slowAt o_fuelAt o_ringAt o_pieceParts o_dragCell o_dragBy o_sums o_keptFar o_lanes o_sizes o_items) H → va_D A (W_X7_held cyI cyJ cyO h_o a_o_sets a_o_ringFar a_o_ringTone a_o_currents a_o_warmths a_o_depths a_o_tape a_o_readFar a_o_readTone a_o_readSea a_o_code a_o_cellAt a_o_courseAt a_o_paceAt a_o_turnsAt a_o_slowAt a_o_fuelAt a_o_ringAt a_o_pieceParts a_o_dragCell a_o_dragBy a_o_sums a_o_shares a_o_keptFar a_o_image a_o_lanes a_o_sizes a_o_items a_o_movedItems o_taped o_at o_wrong o_level o_noRings o_noTones o_noFuel o_pieces o_drags o_all o_noPieces o_noDrags o_kept o_sets o_ringFar o_ringTone o_currents o_warmths o_code o_cellAt o_courseAt o_paceAt o_turnsAt o_slowAt o_fuelAt o_ringAt o_pieceParts o_dragCell o_dragBy o_sums o_keptFar o_lanes o_sizes o_items) → va_S A s.heap H locs → ∀ (ls : Array Slot), lv_has ls 8 [(0, .ref h_o), (5, .int v5), (6, .int v6)] → okP (f_X7_held_L154 n v5 v6 o_level o_noRings o_noTones o_noFuel o_pieces o_drags o_all o_noPieces o_noDrags o_sets o_ringFar o_ringTone o_currents o_warmths o_code o_cellAt o_courseAt o_paceAt o_turnsAt o_slowAt o_fuelAt o_ringAt o_pieceParts o_dragCell o_dragBy o_sums o_keptFar o_lanes o_sizes o_items) post → W p l e (headSpec wsX7_held rm_X7_held).room s m ([.ref h_o, .int x1, .int x2, .int x3] : List Value).toArray below meth c H locs 0 0 Q (F0 m 154 ls []) := by
    intro n
    induction n with
    | zero =>
      intro v5 v6 o_level o_noRings o_noTones o_noFuel o_all o_noPieces o_noDrags o_ringFar o_code o_cellAt o_courseAt o_paceAt o_turnsAt o_slowAt o_fuelAt o_ringAt o_sums o_keptFar H locs hP hD hS ls hl hw
      exact (ok0 hw).elim
    | succ n154 ih154 =>
      intro v5 v6 o_level o_noRings o_noTones o_noFuel o_all o_noPieces o_noDrags o_ringFar o_code o_cellAt o_courseAt o_paceAt o_turnsAt o_slowAt o_fuelAt o_ringAt o_sums o_keptFar H locs hP hD hS ls hl hw
      replace hw : okP (f_X7_held_L154b (f_X7_held_L154 n154) v5 v6 o_level o_noRings o_noTones o_noFuel o_pieces o_drags o_all o_noPieces o_noDrags o_sets o_ringFar o_ringTone o_currents o_warmths o_code o_cellAt o_courseAt o_paceAt o_turnsAt o_slowAt o_fuelAt o_ringAt o_pieceParts o_dragCell o_dragBy o_sums o_keptFar o_lanes o_sizes o_items) post := hw
      unfold f_X7_held_L154b at hw
      refine lv_iload hx hb dX7_held_154 (lv_at hl 2 rfl) ?_
      refine lv_bipush (v := 7) hx hb dX7_held_156 (by decide) ?_
      refine lv_icmp_ge (tgt := 181) hx hb dX7_held_158 (by decide) (fun c_8 => ?_) (fun c_8 => ?_)
      · replace hw := okT hw c_8
        clear c_8
        refine lv_iconst (v := 0) hx hb dX7_held_181 (by decide) ?_
        refine lv_istore (lv' := [(6, .int 0), (0, .ref h_o), (5, .int v5)]) hx hb dX7_held_182 hl (by decide) rfl (fun ls hl => ?_)
        refine lv_iconst (v := 0) hx hb dX7_held_184 (by decide) ?_
        refine lv_istore (lv' := [(7, .int 0), (6, .int 0), (0, .ref h_o), (5, .int v5)]) hx hb dX7_held_185 hl (by decide) rfl (fun ls hl => ?_)
        exact w187 FU v5 0 0 o_level o_noRings o_noTones o_noFuel o_all o_noPieces o_noDrags o_ringFar o_code o_cellAt o_courseAt o_paceAt o_turnsAt o_slowAt o_fuelAt o_ringAt o_sums o_keptFar _ _ hP hD hS _ (lv_sub hl [2, 3, 1, 0] rfl) hw
      · replace hw := okF hw c_8
        clear c_8
        refine lv_aload_n hx hb dX7_held_161 rfl (lv_at hl 0 rfl) ?_
        refine va_get (D := (dC, dI)) (ci := 7) (v := .ref a_o_ringFar) (C := RX7) (T := TX7) (N := 42) hx hb hts hi7 hown hK hP 0 rfl rfl 1 (by decide) hq4 (fun _ h9 => h9) rfl dX7_held_162 ?_
        refine lv_iload hx hb dX7_held_165 (lv_at hl 2 rfl) ?_
        refine lv_aload_n hx hb dX7_held_167 rfl (lv_at hl 0 rfl) ?_
        refine va_get (D := (dC, dI)) (ci := 7) (v := .ref a_o_keptFar) (C := RX7) (T := TX7) (N := 42) hx hb hts hi7 hown hK hP 0 rfl rfl 35 (by decide) hq5 (fun _ h9 => h9) rfl dX7_held_168 ?_
        refine lv_iload hx hb dX7_held_171 (lv_at hl 2 rfl) ?_
        obtain ⟨h_9, hw⟩ := okC hw
        refine va_iald (i := v6) hx hb hK hP 18 0 rfl rfl h_9 dX7_held_173 ?_
        refine lv_topi (fun x_10 ex_10 => ?_)
        replace hw := okN ex_10 hw
        clear ex_10
        obtain ⟨h_11, hw⟩ := okC hw
        refine va_iast (i := v6) (x := x_10) hx hb hK hP hD hS 2 0 rfl rfl h_11 dX7_held_174 (fun H locs hP hD hS => ?_)
        have hP : va_P (dC, dI) vwCl (W_X7_held cyI cyJ cyO h_o a_o_sets a_o_ringFar a_o_ringTone a_o_currents a_o_warmths a_o_depths a_o_tape a_o_readFar a_o_readTone a_o_readSea a_o_code a_o_cellAt a_o_courseAt a_o_paceAt a_o_turnsAt a_o_slowAt a_o_fuelAt a_o_ringAt a_o_pieceParts a_o_dragCell a_o_dragBy a_o_sums a_o_shares a_o_keptFar a_o_image a_o_lanes a_o_sizes a_o_items a_o_movedItems o_taped o_at o_wrong o_level o_noRings o_noTones o_noFuel o_pieces o_drags o_all o_noPieces o_noDrags o_kept o_sets (upd o_ringFar v6.toNatClampNeg x_10) o_ringTone o_currents o_warmths o_code o_cellAt o_courseAt o_paceAt o_turnsAt o_slowAt o_fuelAt o_ringAt o_pieceParts o_dragCell o_dragBy o_sums o_keptFar o_lanes o_sizes o_items) H := hP
        have hD : va_D A (W_X7_held cyI cyJ cyO h_o a_o_sets a_o_ringFar a_o_ringTone a_o_currents a_o_warmths a_o_depths a_o_tape a_o_readFar a_o_readTone a_o_readSea a_o_code a_o_cellAt a_o_courseAt a_o_paceAt a_o_turnsAt a_o_slowAt a_o_fuelAt a_o_ringAt a_o_pieceParts a_o_dragCell a_o_dragBy a_o_sums a_o_shares a_o_keptFar a_o_image a_o_lanes a_o_sizes a_o_items a_o_movedItems o_taped o_at o_wrong o_level o_noRings o_noTones o_noFuel o_pieces o_drags o_all o_noPieces o_noDrags o_kept o_sets (upd o_ringFar v6.toNatClampNeg x_10) o_ringTone o_currents o_warmths o_code o_cellAt o_courseAt o_paceAt o_turnsAt o_slowAt o_fuelAt o_ringAt o_pieceParts o_dragCell o_dragBy o_sums o_keptFar o_lanes o_sizes o_items) := hD
        obtain ⟨x_12, ex_12⟩ : ∃ y : Int32, y = v6 + 1 := ⟨_, rfl⟩
        replace hw := okN ex_12 hw
        refine lv_iinc (v := x_12) (lv' := [(6, .int x_12), (0, .ref h_o), (5, .int v5)]) hx hb dX7_held_175 hl (k := 2) rfl (by rw [ex_12]; rfl) (by decide) rfl (fun ls hl => ?_)
        clear ex_12
        refine lv_goto (tgt := 154) hx hb dX7_held_178 (by decide) ?_
        exact ih154 v5 x_12 o_level o_noRings o_noTones o_noFuel o_all o_noPieces o_noDrags (upd o_ringFar v6.toNatClampNeg x_10) o_code o_cellAt o_courseAt o_paceAt o_turnsAt o_slowAt o_fuelAt o_ringAt o_sums o_keptFar _ _ hP hD hS _ (lv_sub hl [1, 2, 0] rfl) hw
  have w84 : ∀ (n : Nat), ∀ (v5 : Int32) (v6 : Int32) (o_level : Int32) (o_noRings : Int32) (o_noTones : Int32) (o_noFuel : Int32) (o_all : Int64) (o_noPieces : Int32) (o_noDrags : Int32) (o_ringFar : Nat → Int32) (o_code : Nat → Int32) (o_cellAt : Nat → Int32) (o_courseAt : Nat → Int32) (o_paceAt : Nat → Int32) (o_turnsAt : Nat → Int32) (o_slowAt : Nat → Int32) (o_fuelAt : Nat → Int32) (o_ringAt : Nat → Int32) (o_sums : Nat → Int64) (o_keptFar : Nat → Int32) (H : Heap) (locs : List Loc), va_P (dC, dI) vwCl (W_X7_held cyI cyJ cyO h_o a_o_sets a_o_ringFar a_o_ringTone a_o_currents a_o_warmths a_o_depths a_o_tape a_o_readFar a_o_readTone a_o_readSea a_o_code a_o_cellAt a_o_courseAt a_o_paceAt a_o_turnsAt a_o_slowAt a_o_fuelAt a_o_ringAt a_o_pieceParts a_o_dragCell a_o_dragBy a_o_sums a_o_shares a_o_keptFar a_o_image a_o_lanes a_o_sizes a_o_items a_o_movedItems o_taped o_at o_wrong o_level o_noRings o_noTones o_noFuel o_pieces o_drags o_all o_noPieces o_noDrags o_kept o_sets o_ringFar o_ringTone o_currents o_warmths o_code o_cellAt o_courseAt o_paceAt o_turnsAt o_slowAt o_fuelAt o_ringAt o_pieceParts o_dragCell o_dragBy o_sums o_keptFar o_lanes o_sizes o_items) H → va_D A (W_X7_held cyI cyJ cyO h_o a_o_sets a_o_ringFar a_o_ringTone a_o_currents a_o_warmths a_o_depths a_o_tape a_o_readFar a_o_readTone a_o_readSea a_o_code a_o_cellAt a_o_courseAt a_o_paceAt a_o_turnsAt a_o_slowAt a_o_fuelAt a_o_ringAt a_o_pieceParts a_o_dragCell a_o_dragBy a_o_sums a_o_shares a_o_keptFar a_o_image a_o_lanes a_o_sizes a_o_items a_o_movedItems o_taped o_at o_wrong o_level o_noRings o_noTones o_noFuel o_pieces o_drags o_all o_noPieces o_noDrags o_kept o_sets o_ringFar o_ringTone o_currents o_warmths o_code o_cellAt o_courseAt o_paceAt o_turnsAt o_slowAt o_fuelAt o_ringAt o_pieceParts o_dragCell o_dragBy o_sums o_keptFar o_lanes o_sizes o_items) → va_S A s.heap H locs → ∀ (ls : Array Slot), lv_has ls 8 [(0, .ref h_o), (5, .int v5), (6, .int v6)] → okP (f_X7_held_L84 n v5 v6 o_level o_noRings o_noTones o_noFuel o_pieces o_drags o_all o_noPieces o_noDrags o_sets o_ringFar o_ringTone o_currents o_warmths o_code o_cellAt o_courseAt o_paceAt o_turnsAt o_slowAt o_fuelAt o_ringAt o_pieceParts o_dragCell o_dragBy o_sums o_keptFar o_lanes o_sizes o_items) post → W p l e (headSpec wsX7_held rm_X7_held).room s m ([.ref h_o, .int x1, .int x2, .int x3] : List Value).toArray below meth c H locs 0 0 Q (F0 m 84 ls []) := by
    intro n
    induction n with
    | zero =>
      intro v5 v6 o_level o_noRings o_noTones o_noFuel o_all o_noPieces o_noDrags o_ringFar o_code o_cellAt o_courseAt o_paceAt o_turnsAt o_slowAt o_fuelAt o_ringAt o_sums o_keptFar H locs hP hD hS ls hl hw
      exact (ok0 hw).elim
    | succ n84 ih84 =>
      have w140 : ∀ (v5 : Int32) (v6 : Int32) (y0 : Int32) (y1 : Int32) (o_level : Int32) (o_noRings : Int32) (o_noTones : Int32) (o_noFuel : Int32) (o_all : Int64) (o_noPieces : Int32) (o_noDrags : Int32) (o_ringFar : Nat → Int32) (o_code : Nat → Int32) (o_cellAt : Nat → Int32) (o_courseAt : Nat → Int32) (o_paceAt : Nat → Int32) (o_turnsAt : Nat → Int32) (o_slowAt : Nat → Int32) (o_fuelAt : Nat → Int32) (o_ringAt : Nat → Int32) (o_sums : Nat → Int64) (o_keptFar : Nat → Int32) (H : Heap) (locs : List Loc), va_P (dC, dI) vwCl (W_X7_held cyI cyJ cyO h_o a_o_sets a_o_ringFar a_o_ringTone a_o_currents a_o_warmths a_o_depths a_o_tape a_o_readFar a_o_readTone a_o_readSea a_o_code a_o_cellAt a_o_courseAt a_o_paceAt a_o_turnsAt a_o_slowAt a_o_fuelAt a_o_ringAt a_o_pieceParts a_o_dragCell a_o_dragBy a_o_sums a_o_shares a_o_keptFar a_o_image a_o_lanes a_o_sizes a_o_items a_o_movedItems o_taped o_at o_wrong o_level o_noRings o_noTones o_noFuel o_pieces o_drags o_all o_noPieces o_noDrags o_kept o_sets o_ringFar o_ringTone o_currents o_warmths o_code o_cellAt o_courseAt o_paceAt o_turnsAt o_slowAt o_fuelAt o_ringAt o_pieceParts o_dragCell o_dragBy o_sums o_keptFar o_lanes o_sizes o_items) H → va_D A (W_X7_held cyI cyJ cyO h_o a_o_sets a_o_ringFar a_o_ringTone a_o_currents a_o_warmths a_o_depths a_o_tape a_o_readFar a_o_readTone a_o_readSea a_o_code a_o_cellAt a_o_courseAt a_o_paceAt a_o_turnsAt a_o_slowAt a_o_fuelAt a_o_ringAt a_o_pieceParts a_o_dragCell a_o_dragBy a_o_sums a_o_shares a_o_keptFar a_o_image a_o_lanes a_o_sizes a_o_items a_o_movedItems o_taped o_at o_wrong o_level o_noRings o_noTones o_noFuel o_pieces o_drags o_all o_noPieces o_noDrags o_kept o_sets o_ringFar o_ringTone o_currents o_warmths o_code o_cellAt o_courseAt o_paceAt o_turnsAt o_slowAt o_fuelAt o_ringAt o_pieceParts o_dragCell o_dragBy o_sums o_keptFar o_lanes o_sizes o_items) → va_S A s.heap H locs → ∀ (ls : Array Slot), lv_has ls 8 [(0, .ref h_o), (5, .int v5), (6, .int v6)] → okP (f_X7_held_B140 (f_X7_held_L84 n84) v5 v6 y0 y1 o_level o_noRings o_noTones o_noFuel o_pieces o_drags o_all o_noPieces o_noDrags o_sets o_ringFar o_ringTone o_currents o_warmths o_code o_cellAt o_courseAt o_paceAt o_turnsAt o_slowAt o_fuelAt o_ringAt o_pieceParts o_dragCell o_dragBy o_sums o_keptFar o_lanes o_sizes o_items) post → W p l e (headSpec wsX7_held rm_X7_held).room s m ([.ref h_o, .int x1, .int x2, .int x3] : List Value).toArray below meth c H locs 0 0 Q (F0 m 140 ls [.int y0, .int y1, .ref a_o_ringFar]) := by
        intro v5 v6 y0 y1 o_level o_noRings o_noTones o_noFuel o_all o_noPieces o_noDrags o_ringFar o_code o_cellAt o_courseAt o_paceAt o_turnsAt o_slowAt o_fuelAt o_ringAt o_sums o_keptFar H locs hP hD hS ls hl hw
        unfold f_X7_held_B140 at hw
        obtain ⟨h_13, hw⟩ := okC hw
        refine va_iast (i := y1) (x := y0) hx hb hK hP hD hS 2 0 rfl rfl h_13 dX7_held_140 (fun H locs hP hD hS => ?_)
        have hP : va_P (dC, dI) vwCl (W_X7_held cyI cyJ cyO h_o a_o_sets a_o_ringFar a_o_ringTone a_o_currents a_o_warmths a_o_depths a_o_tape a_o_readFar a_o_readTone a_o_readSea a_o_code a_o_cellAt a_o_courseAt a_o_paceAt a_o_turnsAt a_o_slowAt a_o_fuelAt a_o_ringAt a_o_pieceParts a_o_dragCell a_o_dragBy a_o_sums a_o_shares a_o_keptFar a_o_image a_o_lanes a_o_sizes a_o_items a_o_movedItems o_taped o_at o_wrong o_level o_noRings o_noTones o_noFuel o_pieces o_drags o_all o_noPieces o_noDrags o_kept o_sets (upd o_ringFar y1.toNatClampNeg y0) o_ringTone o_currents o_warmths o_code o_cellAt o_courseAt o_paceAt o_turnsAt o_slowAt o_fuelAt o_ringAt o_pieceParts o_dragCell o_dragBy o_sums o_keptFar o_lanes o_sizes o_items) H := hP
        have hD : va_D A (W_X7_held cyI cyJ cyO h_o a_o_sets a_o_ringFar a_o_ringTone a_o_currents a_o_warmths a_o_depths a_o_tape a_o_readFar a_o_readTone a_o_readSea a_o_code a_o_cellAt a_o_courseAt a_o_paceAt a_o_turnsAt a_o_slowAt a_o_fuelAt a_o_ringAt a_o_pieceParts a_o_dragCell a_o_dragBy a_o_sums a_o_shares a_o_keptFar a_o_image a_o_lanes a_o_sizes a_o_items a_o_movedItems o_taped o_at o_wrong o_level o_noRings o_noTones o_noFuel o_pieces o_drags o_all o_noPieces o_noDrags o_kept o_sets (upd o_ringFar y1.toNatClampNeg y0) o_ringTone o_currents o_warmths o_code o_cellAt o_courseAt o_paceAt o_turnsAt o_slowAt o_fuelAt o_ringAt o_pieceParts o_dragCell o_dragBy o_sums o_keptFar o_lanes o_sizes o_items) := hD
        obtain ⟨x_14, ex_14⟩ : ∃ y : Int32, y = v6 + 1 := ⟨_, rfl⟩
        replace hw := okN ex_14 hw
        refine lv_iinc (v := x_14) (lv' := [(6, .int x_14), (0, .ref h_o), (5, .int v5)]) hx hb dX7_held_141 hl (k := 2) rfl (by rw [ex_14]; rfl) (by decide) rfl (fun ls hl => ?_)
        clear ex_14
        refine lv_goto (tgt := 84) hx hb dX7_held_144 (by decide) ?_
        exact ih84 v5 x_14 o_level o_noRings o_noTones o_noFuel o_all o_noPieces o_noDrags (upd o_ringFar y1.toNatClampNeg y0) o_code o_cellAt o_courseAt o_paceAt o_turnsAt o_slowAt o_fuelAt o_ringAt o_sums o_keptFar _ _ hP hD hS _ (lv_sub hl [1, 2, 0] rfl) hw
      intro v5 v6 o_level o_noRings o_noTones o_noFuel o_all o_noPieces o_noDrags o_ringFar o_code o_cellAt o_courseAt o_paceAt o_turnsAt o_slowAt o_fuelAt o_ringAt o_sums o_keptFar H locs hP hD hS ls hl hw
      replace hw : okP (f_X7_held_L84b (f_X7_held_L84 n84) v5 v6 o_level o_noRings o_noTones o_noFuel o_pieces o_drags o_all o_noPieces o_noDrags o_sets o_ringFar o_ringTone o_currents o_warmths o_code o_cellAt o_courseAt o_paceAt o_turnsAt o_slowAt o_fuelAt o_ringAt o_pieceParts o_dragCell o_dragBy o_sums o_keptFar o_lanes o_sizes o_items) post := hw
      unfold f_X7_held_L84b at hw
      refine lv_iload hx hb dX7_held_84 (lv_at hl 2 rfl) ?_
      refine lv_bipush (v := 7) hx hb dX7_held_86 (by decide) ?_
      refine lv_icmp_ge (tgt := 147) hx hb dX7_held_88 (by decide) (fun c_15 => ?_) (fun c_15 => ?_)
      · replace hw := okT hw c_15
        clear c_15
        refine lv_aload_n hx hb dX7_held_147 rfl (lv_at hl 0 rfl) ?_
        have hPc := hP.sub (ws' := (W_X7_ends cyI cyJ cyO h_o a_o_sets a_o_ringFar a_o_ringTone a_o_currents a_o_warmths a_o_depths a_o_tape a_o_readFar a_o_readTone a_o_readSea a_o_code a_o_cellAt a_o_courseAt a_o_paceAt a_o_turnsAt a_o_slowAt a_o_fuelAt a_o_ringAt a_o_pieceParts a_o_dragCell a_o_dragBy a_o_sums a_o_shares a_o_keptFar a_o_image a_o_lanes a_o_sizes a_o_items a_o_movedItems o_taped o_at o_wrong o_level o_noRings o_noTones o_noFuel o_pieces o_drags o_all o_noPieces o_noDrags o_kept o_sets o_ringFar o_ringTone o_currents o_warmths o_code o_cellAt o_courseAt o_paceAt o_turnsAt o_slowAt o_fuelAt o_ringAt o_pieceParts o_dragCell o_dragBy o_sums)) [0, 1, 2, 3, 4, 5, 6, 7, 8, 9, 10, 11, 12, 13, 14, 15, 16, 17] rfl
        have hDc := hD.sub (ws' := (W_X7_ends cyI cyJ cyO h_o a_o_sets a_o_ringFar a_o_ringTone a_o_currents a_o_warmths a_o_depths a_o_tape a_o_readFar a_o_readTone a_o_readSea a_o_code a_o_cellAt a_o_courseAt a_o_paceAt a_o_turnsAt a_o_slowAt a_o_fuelAt a_o_ringAt a_o_pieceParts a_o_dragCell a_o_dragBy a_o_sums a_o_shares a_o_keptFar a_o_image a_o_lanes a_o_sizes a_o_items a_o_movedItems o_taped o_at o_wrong o_level o_noRings o_noTones o_noFuel o_pieces o_drags o_all o_noPieces o_noDrags o_kept o_sets o_ringFar o_ringTone o_currents o_warmths o_code o_cellAt o_courseAt o_paceAt o_turnsAt o_slowAt o_fuelAt o_ringAt o_pieceParts o_dragCell o_dragBy o_sums)) [0, 1, 2, 3, 4, 5, 6, 7, 8, 9, 10, 11, 12, 13, 14, 15, 16, 17] (by decide +kernel) rfl
        have hFc := va_free (wc := (W_X7_ends cyI cyJ cyO h_o a_o_sets a_o_ringFar a_o_ringTone a_o_currents a_o_warmths a_o_depths a_o_tape a_o_readFar a_o_readTone a_o_readSea a_o_code a_o_cellAt a_o_courseAt a_o_paceAt a_o_turnsAt a_o_slowAt a_o_fuelAt a_o_ringAt a_o_pieceParts a_o_dragCell a_o_dragBy a_o_sums a_o_shares a_o_keptFar a_o_image a_o_lanes a_o_sizes a_o_items a_o_movedItems o_taped o_at o_wrong o_level o_noRings o_noTones o_noFuel o_pieces o_drags o_all o_noPieces o_noDrags o_kept o_sets o_ringFar o_ringTone o_currents o_warmths o_code o_cellAt o_courseAt o_paceAt o_turnsAt o_slowAt o_fuelAt o_ringAt o_pieceParts o_dragCell o_dragBy o_sums)) hD hS hA [0, 1, 2, 3, 4, 5, 6, 7, 8, 9, 10, 11, 12, 13, 14, 15, 16, 17] rfl
        refine kc_v (wr := [(a_o_keptFar, .inl (cyI, 7, .inl o_keptFar)), (a_o_lanes, .inl (cyI, 4, .inl o_lanes)), (a_o_sizes, .inl (cyI, 4, .inl o_sizes)), (a_o_items, .inl (cyI, 64, .inl o_items))]) (va_runV (As := []) (rest := []) ⟨hx, hb, hml, hown, hts⟩ (c_X7_ends l dC dI cyI cyJ cyO H.size h_o a_o_sets a_o_ringFar a_o_ringTone a_o_currents a_o_warmths a_o_depths a_o_tape a_o_readFar a_o_readTone a_o_readSea a_o_code a_o_cellAt a_o_courseAt a_o_paceAt a_o_turnsAt a_o_slowAt a_o_fuelAt a_o_ringAt a_o_pieceParts a_o_dragCell a_o_dragBy a_o_sums a_o_shares a_o_keptFar a_o_image a_o_lanes a_o_sizes a_o_items a_o_movedItems o_taped o_at o_wrong o_level o_noRings o_noTones o_noFuel o_pieces o_drags o_all o_noPieces o_noDrags o_kept o_sets o_ringFar o_ringTone o_currents o_warmths o_code o_cellAt o_courseAt o_paceAt o_turnsAt o_slowAt o_fuelAt o_ringAt o_pieceParts o_dragCell o_dragBy o_sums _ (okb11 hw)) (cwV 0 hts (gdV (fun w h => List.mem_cons_of_mem _ h) q_995 q_997 qs_39 q_8 q_998) rfl rfl rfl (by decide +kernel) ⟨Nat.le_of_ble_eq_true rfl, Nat.le_of_ble_eq_true rfl⟩) ⟨(kpre zN_ok hK hPc hDc trivial hS hFc).1, va_recv hK hP (ci := 7) (q0 := 0) rfl rfl, (kpre zN_ok hK hPc hDc trivial hS hFc).2⟩ rfl rfl hl.1 rfl (lv_room (Nat.le_of_ble_eq_true rfl)) dX7_held_148 ⟨Nat.le_of_ble_eq_true rfl, Nat.le_of_ble_eq_true rfl⟩) hP hD hS hFc [0, 1, 2, 3, 4, 5, 6, 7, 8, 9, 10, 11, 12, 13, 14, 15, 16, 17] [18, 19, 20, 21] rfl rfl (by decide +kernel) (by decide +kernel) (fun u H locs hw hP hD hS => ?_)
        obtain ⟨w_16, w_17, w_18, w_19, w_20, w_21, w_22, w_23, w_24, w_25, w_26⟩ := u
        try dsimp only at hw
        have hP : va_P (dC, dI) vwCl (W_X7_held cyI cyJ cyO h_o a_o_sets a_o_ringFar a_o_ringTone a_o_currents a_o_warmths a_o_depths a_o_tape a_o_readFar a_o_readTone a_o_readSea a_o_code a_o_cellAt a_o_courseAt a_o_paceAt a_o_turnsAt a_o_slowAt a_o_fuelAt a_o_ringAt a_o_pieceParts a_o_dragCell a_o_dragBy a_o_sums a_o_shares a_o_keptFar a_o_image a_o_lanes a_o_sizes a_o_items a_o_movedItems o_taped o_at o_wrong w_16 o_noRings o_noTones o_noFuel o_pieces o_drags w_17 o_noPieces o_noDrags o_kept o_sets o_ringFar o_ringTone o_currents o_warmths w_18 w_19 w_20 w_21 w_22 w_23 w_24 w_25 o_pieceParts o_dragCell o_dragBy w_26 o_keptFar o_lanes o_sizes o_items) H := hP.sub [4, 5, 6, 7, 8, 9, 10, 11, 12, 13, 14, 15, 16, 17, 18, 19, 20, 21, 0, 1, 2, 3] rfl
        have hD : va_D A (W_X7_held cyI cyJ cyO h_o a_o_sets a_o_ringFar a_o_ringTone a_o_currents a_o_warmths a_o_depths a_o_tape a_o_readFar a_o_readTone a_o_readSea a_o_code a_o_cellAt a_o_courseAt a_o_paceAt a_o_turnsAt a_o_slowAt a_o_fuelAt a_o_ringAt a_o_pieceParts a_o_dragCell a_o_dragBy a_o_sums a_o_shares a_o_keptFar a_o_image a_o_lanes a_o_sizes a_o_items a_o_movedItems o_taped o_at o_wrong w_16 o_noRings o_noTones o_noFuel o_pieces o_drags w_17 o_noPieces o_noDrags o_kept o_sets o_ringFar o_ringTone o_currents o_warmths w_18 w_19 w_20 w_21 w_22 w_23 w_24 w_25 o_pieceParts o_dragCell o_dragBy w_26 o_keptFar o_lanes o_sizes o_items) := hD.sub [4, 5, 6, 7, 8, 9, 10, 11, 12, 13, 14, 15, 16, 17, 18, 19, 20, 21, 0, 1, 2, 3] (by decide +kernel) rfl
        clear hPc hDc hFc
        refine lv_iconst (v := 1) hx hb dX7_held_151 (by decide) ?_
        refine lv_istore (lv' := [(6, .int 1), (0, .ref h_o), (5, .int v5)]) hx hb dX7_held_152 hl (by decide) rfl (fun ls hl => ?_)
        exact w154 FU v5 1 w_16 o_noRings o_noTones o_noFuel w_17 o_noPieces o_noDrags o_ringFar w_18 w_19 w_20 w_21 w_22 w_23 w_24 w_25 w_26 o_keptFar _ _ hP hD hS _ (lv_sub hl [1, 2, 0] rfl) hw
      · replace hw := okF hw c_15
        clear c_15
        refine lv_aload_n hx hb dX7_held_91 rfl (lv_at hl 0 rfl) ?_
        refine va_get (D := (dC, dI)) (ci := 7) (v := .ref a_o_keptFar) (C := RX7) (T := TX7) (N := 42) hx hb hts hi7 hown hK hP 0 rfl rfl 35 (by decide) hq5 (fun _ h9 => h9) rfl dX7_held_92 ?_
        refine lv_iload hx hb dX7_held_95 (lv_at hl 2 rfl) ?_
        refine lv_aload_n hx hb dX7_held_97 rfl (lv_at hl 0 rfl) ?_
        refine va_get (D := (dC, dI)) (ci := 7) (v := .ref a_o_ringFar) (C := RX7) (T := TX7) (N := 42) hx hb hts hi7 hown hK hP 0 rfl rfl 1 (by decide) hq4 (fun _ h9 => h9) rfl dX7_held_98 ?_
        refine lv_iload hx hb dX7_held_101 (lv_at hl 2 rfl) ?_
        obtain ⟨h_27, hw⟩ := okC hw
        refine va_iald (i := v6) hx hb hK hP 2 0 rfl rfl h_27 dX7_held_103 ?_
        refine lv_topi (fun x_28 ex_28 => ?_)
        replace hw := okN ex_28 hw
        clear ex_28
        obtain ⟨h_29, hw⟩ := okC hw
        refine va_iast (i := v6) (x := x_28) hx hb hK hP hD hS 18 0 rfl rfl h_29 dX7_held_104 (fun H locs hP hD hS => ?_)
        have hP : va_P (dC, dI) vwCl (W_X7_held cyI cyJ cyO h_o a_o_sets a_o_ringFar a_o_ringTone a_o_currents a_o_warmths a_o_depths a_o_tape a_o_readFar a_o_readTone a_o_readSea a_o_code a_o_cellAt a_o_courseAt a_o_paceAt a_o_turnsAt a_o_slowAt a_o_fuelAt a_o_ringAt a_o_pieceParts a_o_dragCell a_o_dragBy a_o_sums a_o_shares a_o_keptFar a_o_image a_o_lanes a_o_sizes a_o_items a_o_movedItems o_taped o_at o_wrong o_level o_noRings o_noTones o_noFuel o_pieces o_drags o_all o_noPieces o_noDrags o_kept o_sets o_ringFar o_ringTone o_currents o_warmths o_code o_cellAt o_courseAt o_paceAt o_turnsAt o_slowAt o_fuelAt o_ringAt o_pieceParts o_dragCell o_dragBy o_sums (upd o_keptFar v6.toNatClampNeg x_28) o_lanes o_sizes o_items) H := hP
        have hD : va_D A (W_X7_held cyI cyJ cyO h_o a_o_sets a_o_ringFar a_o_ringTone a_o_currents a_o_warmths a_o_depths a_o_tape a_o_readFar a_o_readTone a_o_readSea a_o_code a_o_cellAt a_o_courseAt a_o_paceAt a_o_turnsAt a_o_slowAt a_o_fuelAt a_o_ringAt a_o_pieceParts a_o_dragCell a_o_dragBy a_o_sums a_o_shares a_o_keptFar a_o_image a_o_lanes a_o_sizes a_o_items a_o_movedItems o_taped o_at o_wrong o_level o_noRings o_noTones o_noFuel o_pieces o_drags o_all o_noPieces o_noDrags o_kept o_sets o_ringFar o_ringTone o_currents o_warmths o_code o_cellAt o_courseAt o_paceAt o_turnsAt o_slowAt o_fuelAt o_ringAt o_pieceParts o_dragCell o_dragBy o_sums (upd o_keptFar v6.toNatClampNeg x_28) o_lanes o_sizes o_items) := hD
        refine lv_aload_n hx hb dX7_held_105 rfl (lv_at hl 0 rfl) ?_
        refine va_get (D := (dC, dI)) (ci := 7) (v := .ref a_o_ringFar) (C := RX7) (T := TX7) (N := 42) hx hb hts hi7 hown hK hP 0 rfl rfl 1 (by decide) hq4 (fun _ h9 => h9) rfl dX7_held_106 ?_
        refine lv_iload hx hb dX7_held_109 (lv_at hl 2 rfl) ?_
        refine lv_iload hx hb dX7_held_111 (lv_at hl 2 rfl) ?_
        refine lv_aload_n hx hb dX7_held_113 rfl (lv_at hl 0 rfl) ?_
        refine va_get (D := (dC, dI)) (ci := 7) (v := .ref a_o_sets) (C := RX7) (T := TX7) (N := 42) hx hb hts hi7 hown hK hP 0 rfl rfl 0 (by decide) hq3 (fun _ h9 => h9) rfl dX7_held_114 ?_
        refine lv_iconst (v := 2) hx hb dX7_held_117 (by decide) ?_
        refine va_iald (i := 2) hx hb hK hP 1 0 rfl rfl (show ¬ _ by decide) dX7_held_118 ?_
        refine lv_icmp_gt (tgt := 139) hx hb dX7_held_119 (by decide) (fun c_30 => ?_) (fun c_30 => ?_)
        · replace hw := okT hw c_30
          clear c_30
          refine lv_iconst (v := (-1)) hx hb dX7_held_139 (by decide) ?_
          exact w140 v5 v6 (-1) v6 o_level o_noRings o_noTones o_noFuel o_all o_noPieces o_noDrags o_ringFar o_code o_cellAt o_courseAt o_paceAt o_turnsAt o_slowAt o_fuelAt o_ringAt o_sums (upd o_keptFar v6.toNatClampNeg x_28) _ _ hP hD hS _ (lv_sub hl [0, 1, 2] rfl) hw
        · replace hw := okF hw c_30
          clear c_30
          refine lv_aload_n hx hb dX7_held_122 rfl (lv_at hl 0 rfl) ?_
          refine lv_aload_n hx hb dX7_held_123 rfl (lv_at hl 0 rfl) ?_
          refine va_get (D := (dC, dI)) (ci := 7) (v := .ref a_o_items) (C := RX7) (T := TX7) (N := 42) hx hb hts hi7 hown hK hP 0 rfl rfl 40 (by decide) hq2 (fun _ h9 => h9) rfl dX7_held_124 ?_
          refine lv_iload hx hb dX7_held_127 (lv_at hl 1 rfl) ?_
          refine lv_iload hx hb dX7_held_129 (lv_at hl 2 rfl) ?_
          refine lv_iadd hx hb dX7_held_131 ?_
          obtain ⟨h_31, hw⟩ := okC hw
          refine va_iald (i := v5 + v6) hx hb hK hP 21 0 rfl rfl h_31 dX7_held_132 ?_
          have hPc := hP.sub (ws' := (W_X7_away cyI cyJ cyO h_o a_o_sets a_o_ringFar a_o_ringTone a_o_currents a_o_warmths a_o_depths a_o_tape a_o_readFar a_o_readTone a_o_readSea a_o_code a_o_cellAt a_o_courseAt a_o_paceAt a_o_turnsAt a_o_slowAt a_o_fuelAt a_o_ringAt a_o_pieceParts a_o_dragCell a_o_dragBy a_o_sums a_o_shares a_o_keptFar a_o_image a_o_lanes a_o_sizes a_o_items a_o_movedItems o_taped o_at o_wrong o_level o_noRings o_noTones o_noFuel o_pieces o_drags o_all o_noPieces o_noDrags o_kept o_sets)) [0, 1] rfl
          have hDc := hD.sub (ws' := (W_X7_away cyI cyJ cyO h_o a_o_sets a_o_ringFar a_o_ringTone a_o_currents a_o_warmths a_o_depths a_o_tape a_o_readFar a_o_readTone a_o_readSea a_o_code a_o_cellAt a_o_courseAt a_o_paceAt a_o_turnsAt a_o_slowAt a_o_fuelAt a_o_ringAt a_o_pieceParts a_o_dragCell a_o_dragBy a_o_sums a_o_shares a_o_keptFar a_o_image a_o_lanes a_o_sizes a_o_items a_o_movedItems o_taped o_at o_wrong o_level o_noRings o_noTones o_noFuel o_pieces o_drags o_all o_noPieces o_noDrags o_kept o_sets)) [0, 1] (by decide +kernel) rfl
          have hFc := va_free (wc := (W_X7_away cyI cyJ cyO h_o a_o_sets a_o_ringFar a_o_ringTone a_o_currents a_o_warmths a_o_depths a_o_tape a_o_readFar a_o_readTone a_o_readSea a_o_code a_o_cellAt a_o_courseAt a_o_paceAt a_o_turnsAt a_o_slowAt a_o_fuelAt a_o_ringAt a_o_pieceParts a_o_dragCell a_o_dragBy a_o_sums a_o_shares a_o_keptFar a_o_image a_o_lanes a_o_sizes a_o_items a_o_movedItems o_taped o_at o_wrong o_level o_noRings o_noTones o_noFuel o_pieces o_drags o_all o_noPieces o_noDrags o_kept o_sets)) hD hS hA [0, 1] rfl
          refine kc_i (wr := [(a_o_ringFar, .inl (cyI, 7, .inl o_ringFar)), (a_o_ringTone, .inl (cyI, 7, .inl o_ringTone)), (a_o_currents, .inl (cyI, 200, .inl o_currents)), (a_o_warmths, .inl (cyI, 200, .inl o_warmths)), (a_o_code, .inl (cyI, 7, .inl o_code)), (a_o_cellAt, .inl (cyI, 7, .inl o_cellAt)), (a_o_courseAt, .inl (cyI, 7, .inl o_courseAt)), (a_o_paceAt, .inl (cyI, 7, .inl o_paceAt)), (a_o_turnsAt, .inl (cyI, 7, .inl o_turnsAt)), (a_o_slowAt, .inl (cyI, 7, .inl o_slowAt)), (a_o_fuelAt, .inl (cyI, 7, .inl o_fuelAt)), (a_o_ringAt, .inl (cyI, 7, .inl o_ringAt)), (a_o_pieceParts, .inl (cyI, 20, .inl o_pieceParts)), (a_o_dragCell, .inl (cyI, 6, .inl o_dragCell)), (a_o_dragBy, .inl (cyI, 6, .inl o_dragBy)), (a_o_sums, .inl (cyJ, 100, .inr (.inl o_sums))), (a_o_keptFar, .inl (cyI, 7, .inl (upd o_keptFar v6.toNatClampNeg x_28))), (a_o_lanes, .inl (cyI, 4, .inl o_lanes)), (a_o_sizes, .inl (cyI, 4, .inl o_sizes)), (a_o_items, .inl (cyI, 64, .inl o_items))]) (va_runV (As := [.int (o_items (v5 + v6).toNatClampNeg)]) (rest := [.int v6, .ref a_o_ringFar]) ⟨hx, hb, hml, hown, hts⟩ (c_X7_away l dC dI cyI cyJ cyO H.size h_o a_o_sets a_o_ringFar a_o_ringTone a_o_currents a_o_warmths a_o_depths a_o_tape a_o_readFar a_o_readTone a_o_readSea a_o_code a_o_cellAt a_o_courseAt a_o_paceAt a_o_turnsAt a_o_slowAt a_o_fuelAt a_o_ringAt a_o_pieceParts a_o_dragCell a_o_dragBy a_o_sums a_o_shares a_o_keptFar a_o_image a_o_lanes a_o_sizes a_o_items a_o_movedItems o_taped o_at o_wrong o_level o_noRings o_noTones o_noFuel o_pieces o_drags o_all o_noPieces o_noDrags o_kept o_sets (o_items (v5 + v6).toNatClampNeg) _ (okb1 hw)) (cwV 1 hts (gdV (fun w h => List.mem_cons_of_mem _ h) q_849 q_851 qs_24 q_8 q_852) rfl rfl rfl (by decide +kernel) ⟨Nat.le_of_ble_eq_true rfl, Nat.le_of_ble_eq_true rfl⟩) ⟨(kpre zN_ok hK hPc hDc trivial hS hFc).1, va_recv hK hP (ci := 7) (q0 := 0) rfl rfl, (kpre zN_ok hK hPc hDc trivial hS hFc).2⟩ rfl rfl hl.1 rfl (lv_room (Nat.le_of_ble_eq_true rfl)) dX7_held_133 ⟨Nat.le_of_ble_eq_true rfl, Nat.le_of_ble_eq_true rfl⟩) hP hD hS hFc [0, 1] [2, 3, 4, 5, 6, 7, 8, 9, 10, 11, 12, 13, 14, 15, 16, 17, 18, 19, 20, 21] rfl rfl (by decide +kernel) (by decide +kernel) (fun r_32 u H locs hw hP hD hS => ?_)
          try dsimp only at hw
          have hP : va_P (dC, dI) vwCl (W_X7_held cyI cyJ cyO h_o a_o_sets a_o_ringFar a_o_ringTone a_o_currents a_o_warmths a_o_depths a_o_tape a_o_readFar a_o_readTone a_o_readSea a_o_code a_o_cellAt a_o_courseAt a_o_paceAt a_o_turnsAt a_o_slowAt a_o_fuelAt a_o_ringAt a_o_pieceParts a_o_dragCell a_o_dragBy a_o_sums a_o_shares a_o_keptFar a_o_image a_o_lanes a_o_sizes a_o_items a_o_movedItems o_taped o_at o_wrong o_level o_noRings o_noTones o_noFuel o_pieces o_drags o_all o_noPieces o_noDrags o_kept o_sets o_ringFar o_ringTone o_currents o_warmths o_code o_cellAt o_courseAt o_paceAt o_turnsAt o_slowAt o_fuelAt o_ringAt o_pieceParts o_dragCell o_dragBy o_sums (upd o_keptFar v6.toNatClampNeg x_28) o_lanes o_sizes o_items) H := hP.sub [20, 21, 0, 1, 2, 3, 4, 5, 6, 7, 8, 9, 10, 11, 12, 13, 14, 15, 16, 17, 18, 19] rfl
          have hD : va_D A (W_X7_held cyI cyJ cyO h_o a_o_sets a_o_ringFar a_o_ringTone a_o_currents a_o_warmths a_o_depths a_o_tape a_o_readFar a_o_readTone a_o_readSea a_o_code a_o_cellAt a_o_courseAt a_o_paceAt a_o_turnsAt a_o_slowAt a_o_fuelAt a_o_ringAt a_o_pieceParts a_o_dragCell a_o_dragBy a_o_sums a_o_shares a_o_keptFar a_o_image a_o_lanes a_o_sizes a_o_items a_o_movedItems o_taped o_at o_wrong o_level o_noRings o_noTones o_noFuel o_pieces o_drags o_all o_noPieces o_noDrags o_kept o_sets o_ringFar o_ringTone o_currents o_warmths o_code o_cellAt o_courseAt o_paceAt o_turnsAt o_slowAt o_fuelAt o_ringAt o_pieceParts o_dragCell o_dragBy o_sums (upd o_keptFar v6.toNatClampNeg x_28) o_lanes o_sizes o_items) := hD.sub [20, 21, 0, 1, 2, 3, 4, 5, 6, 7, 8, 9, 10, 11, 12, 13, 14, 15, 16, 17, 18, 19] (by decide +kernel) rfl
          clear hPc hDc hFc
          refine lv_goto (tgt := 140) hx hb dX7_held_136 (by decide) ?_
          exact w140 v5 v6 r_32 v6 o_level o_noRings o_noTones o_noFuel o_all o_noPieces o_noDrags o_ringFar o_code o_cellAt o_courseAt o_paceAt o_turnsAt o_slowAt o_fuelAt o_ringAt o_sums (upd o_keptFar v6.toNatClampNeg x_28) _ _ hP hD hS _ (lv_sub hl [0, 1, 2] rfl) hw
  unfold f_X7_held at hw
  have hP : va_P (dC, dI) vwCl (W_X7_held cyI cyJ cyO h_o a_o_sets a_o_ringFar a_o_ringTone a_o_currents a_o_warmths a_o_depths a_o_tape a_o_readFar a_o_readTone a_o_readSea a_o_code a_o_cellAt a_o_courseAt a_o_paceAt a_o_turnsAt a_o_slowAt a_o_fuelAt a_o_ringAt a_o_pieceParts a_o_dragCell a_o_dragBy a_o_sums a_o_shares a_o_keptFar a_o_image a_o_lanes a_o_sizes a_o_items a_o_movedItems o_taped o_at o_wrong o_level o_noRings o_noTones o_noFuel o_pieces o_drags o_all o_noPieces o_noDrags o_kept o_sets o_ringFar o_ringTone o_currents o_warmths o_code o_cellAt o_courseAt o_paceAt o_turnsAt o_slowAt o_fuelAt o_ringAt o_pieceParts o_dragCell o_dragBy o_sums o_keptFar o_lanes o_sizes o_items) s.heap := hP
  obtain ⟨H, hH⟩ : ∃ H, H = s.heap := ⟨_, rfl⟩
  obtain ⟨locs, hlo⟩ : ∃ x : List Loc, x = [] := ⟨_, rfl⟩
  have hP : va_P (dC, dI) vwCl (W_X7_held cyI cyJ cyO h_o a_o_sets a_o_ringFar a_o_ringTone a_o_currents a_o_warmths a_o_depths a_o_tape a_o_readFar a_o_readTone a_o_readSea a_o_code a_o_cellAt a_o_courseAt a_o_paceAt a_o_turnsAt a_o_slowAt a_o_fuelAt a_o_ringAt a_o_pieceParts a_o_dragCell a_o_dragBy a_o_sums a_o_shares a_o_keptFar a_o_image a_o_lanes a_o_sizes a_o_items a_o_movedItems o_taped o_at o_wrong o_level o_noRings o_noTones o_noFuel o_pieces o_drags o_all o_noPieces o_noDrags o_kept o_sets o_ringFar o_ringTone o_currents o_warmths o_code o_cellAt o_courseAt o_paceAt o_turnsAt o_slowAt o_fuelAt o_ringAt o_pieceParts o_dragCell o_dragBy o_sums o_keptFar o_lanes o_sizes o_items) H := by rw [hH]; exact hP
  have hS : va_S A s.heap H locs := by rw [hH, hlo]; exact hS
  refine kH hH hlo ?_
  clear hH hlo
  refine lv_iload_n hx hb dX7_held_0 rfl (lv_at hl 1 rfl) ?_
  have hFc := va_free (wc := []) hD hS hA [] rfl
  refine kp_i (va_runS (As := [.int x1]) (rest := []) ⟨hx, hb, hml, hown, hts⟩ (c_X7_isSheet l dC dI cyI cyJ cyO H.size x1 _ (okb1 hw)) (va_cwS 1 hts (gdS (fun w h => List.mem_cons_of_mem _ h) q_1046 q_1047 q_8 q_1048) rfl rfl rfl (by decide +kernel) ⟨Nat.le_of_ble_eq_true rfl, Nat.le_of_ble_eq_true rfl⟩) (kpre zN_ok hK va_P0 va_D0 trivial hS hFc) rfl rfl hl.1 rfl (lv_room (Nat.le_of_ble_eq_true rfl)) dX7_held_1 ⟨Nat.le_of_ble_eq_true rfl, Nat.le_of_ble_eq_true rfl⟩) hP hD hS hFc (fun r_33 H locs hw hP hS => ?_)
  try dsimp only at hw
  clear hFc
  refine lv_if_eq (tgt := 14) hx hb dX7_held_4 (by decide) (fun c_34 => ?_) (fun c_34 => ?_)
  · replace hw := okT hw c_34
    clear c_34
    refine lv_iconst (v := (-1)) hx hb dX7_held_14 (by decide) ?_
    rw [hQ]
    exact W.iret (v := (-1)) hx hb hr (fun t ht hW => ⟨⟨(-1), (o_level, o_noRings, o_noTones, o_noFuel, o_all, o_noPieces, o_noDrags, o_ringFar, o_code, o_cellAt, o_courseAt, o_paceAt, o_turnsAt, o_slowAt, o_fuelAt, o_ringAt, o_sums, o_keptFar), rfl, okS hw, by rw [ht]; exact hP, va_K.moved hW.alike hK, hD⟩, hS.F ht⟩) hS.2.2 dX7_held_15
  · replace hw := okF hw c_34
    clear c_34
    refine lv_iload_n hx hb dX7_held_7 rfl (lv_at hl 2 rfl) ?_
    have hFc := va_free (wc := []) hD hS hA [] rfl
    refine kp_i (va_runS (As := [.int x2]) (rest := []) ⟨hx, hb, hml, hown, hts⟩ (c_X7_isLane l dC dI cyI cyJ cyO H.size x2 _ (okb1 hw)) (va_cwS 1 hts (gdS (fun w h => List.mem_cons_of_mem _ h) q_1050 q_1051 q_8 q_1052) rfl rfl rfl (by decide +kernel) ⟨Nat.le_of_ble_eq_true rfl, Nat.le_of_ble_eq_true rfl⟩) (kpre zN_ok hK va_P0 va_D0 trivial hS hFc) rfl rfl hl.1 rfl (lv_room (Nat.le_of_ble_eq_true rfl)) dX7_held_8 ⟨Nat.le_of_ble_eq_true rfl, Nat.le_of_ble_eq_true rfl⟩) hP hD hS hFc (fun r_35 H locs hw hP hS => ?_)
    try dsimp only at hw
    clear hFc
    refine lv_if_ne (tgt := 16) hx hb dX7_held_11 (by decide) (fun c_36 => ?_) (fun c_36 => ?_)
    · replace hw := okF hw c_36
      clear c_36
      refine lv_aload_n hx hb dX7_held_16 rfl (lv_at hl 0 rfl) ?_
      refine lv_iload_n hx hb dX7_held_17 rfl (lv_at hl 1 rfl) ?_
      refine lv_iload_n hx hb dX7_held_18 rfl (lv_at hl 2 rfl) ?_
      refine lv_iload_n hx hb dX7_held_19 rfl (lv_at hl 3 rfl) ?_
      refine lv_aload_n hx hb dX7_held_20 rfl (lv_at hl 0 rfl) ?_
      refine va_get (D := (dC, dI)) (ci := 7) (v := .ref a_o_sets) (C := RX7) (T := TX7) (N := 42) hx hb hts hi7 hown hK hP 0 rfl rfl 0 (by decide) hq3 (fun _ h9 => h9) rfl dX7_held_21 ?_
      refine lv_iconst (v := 2) hx hb dX7_held_24 (by decide) ?_
      refine va_iald (i := 2) hx hb hK hP 1 0 rfl rfl (show ¬ _ by decide) dX7_held_25 ?_
      refine lv_iconst (v := 1) hx hb dX7_held_26 (by decide) ?_
      refine lv_iadd hx hb dX7_held_27 ?_
      have hPc := hP.sub (ws' := (W_X7_refuses cyI cyJ cyO h_o a_o_sets a_o_ringFar a_o_ringTone a_o_currents a_o_warmths a_o_depths a_o_tape a_o_readFar a_o_readTone a_o_readSea a_o_code a_o_cellAt a_o_courseAt a_o_paceAt a_o_turnsAt a_o_slowAt a_o_fuelAt a_o_ringAt a_o_pieceParts a_o_dragCell a_o_dragBy a_o_sums a_o_shares a_o_keptFar a_o_image a_o_lanes a_o_sizes a_o_items a_o_movedItems o_taped o_at o_wrong o_level o_noRings o_noTones o_noFuel o_pieces o_drags o_all o_noPieces o_noDrags o_kept o_lanes o_sizes)) [0, 19, 20] rfl
      have hDc := hD.sub (ws' := (W_X7_refuses cyI cyJ cyO h_o a_o_sets a_o_ringFar a_o_ringTone a_o_currents a_o_warmths a_o_depths a_o_tape a_o_readFar a_o_readTone a_o_readSea a_o_code a_o_cellAt a_o_courseAt a_o_paceAt a_o_turnsAt a_o_slowAt a_o_fuelAt a_o_ringAt a_o_pieceParts a_o_dragCell a_o_dragBy a_o_sums a_o_shares a_o_keptFar a_o_image a_o_lanes a_o_sizes a_o_items a_o_movedItems o_taped o_at o_wrong o_level o_noRings o_noTones o_noFuel o_pieces o_drags o_all o_noPieces o_noDrags o_kept o_lanes o_sizes)) [0, 19, 20] (by decide +kernel) rfl
      have hFc := va_free (wc := (W_X7_refuses cyI cyJ cyO h_o a_o_sets a_o_ringFar a_o_ringTone a_o_currents a_o_warmths a_o_depths a_o_tape a_o_readFar a_o_readTone a_o_readSea a_o_code a_o_cellAt a_o_courseAt a_o_paceAt a_o_turnsAt a_o_slowAt a_o_fuelAt a_o_ringAt a_o_pieceParts a_o_dragCell a_o_dragBy a_o_sums a_o_shares a_o_keptFar a_o_image a_o_lanes a_o_sizes a_o_items a_o_movedItems o_taped o_at o_wrong o_level o_noRings o_noTones o_noFuel o_pieces o_drags o_all o_noPieces o_noDrags o_kept o_lanes o_sizes)) hD hS hA [0, 19, 20] rfl
      refine kc_i (wr := [(a_o_sets, .inl (cyI, 8, .inl o_sets)), (a_o_ringFar, .inl (cyI, 7, .inl o_ringFar)), (a_o_ringTone, .inl (cyI, 7, .inl o_ringTone)), (a_o_currents, .inl (cyI, 200, .inl o_currents)), (a_o_warmths, .inl (cyI, 200, .inl o_warmths)), (a_o_code, .inl (cyI, 7, .inl o_code)), (a_o_cellAt, .inl (cyI, 7, .inl o_cellAt)), (a_o_courseAt, .inl (cyI, 7, .inl o_courseAt)), (a_o_paceAt, .inl (cyI, 7, .inl o_paceAt)), (a_o_turnsAt, .inl (cyI, 7, .inl o_turnsAt)), (a_o_slowAt, .inl (cyI, 7, .inl o_slowAt)), (a_o_fuelAt, .inl (cyI, 7, .inl o_fuelAt)), (a_o_ringAt, .inl (cyI, 7, .inl o_ringAt)), (a_o_pieceParts, .inl (cyI, 20, .inl o_pieceParts)), (a_o_dragCell, .inl (cyI, 6, .inl o_dragCell)), (a_o_dragBy, .inl (cyI, 6, .inl o_dragBy)), (a_o_sums, .inl (cyJ, 100, .inr (.inl o_sums))), (a_o_keptFar, .inl (cyI, 7, .inl o_keptFar)), (a_o_items, .inl (cyI, 64, .inl o_items))]) (va_runV (As := [.int x1, .int x2, .int x3, .int ((o_sets 2) + 1)]) (rest := []) ⟨hx, hb, hml, hown, hts⟩ (c_X7_refuses l dC dI cyI cyJ cyO H.size h_o a_o_sets a_o_ringFar a_o_ringTone a_o_currents a_o_warmths a_o_depths a_o_tape a_o_readFar a_o_readTone a_o_readSea a_o_code a_o_cellAt a_o_courseAt a_o_paceAt a_o_turnsAt a_o_slowAt a_o_fuelAt a_o_ringAt a_o_pieceParts a_o_dragCell a_o_dragBy a_o_sums a_o_shares a_o_keptFar a_o_image a_o_lanes a_o_sizes a_o_items a_o_movedItems o_taped o_at o_wrong o_level o_noRings o_noTones o_noFuel o_pieces o_drags o_all o_noPieces o_noDrags o_kept o_lanes o_sizes x1 x2 x3 ((o_sets 2) + 1) _ (okb1 hw)) (cwV 4 hts (gdV (fun w h => List.mem_cons_of_mem _ h) q_1053 q_1055 qs_43 q_8 q_1056) rfl rfl rfl (by decide +kernel) ⟨Nat.le_of_ble_eq_true rfl, Nat.le_of_ble_eq_true rfl⟩) ⟨(kpre zN_ok hK hPc hDc trivial hS hFc).1, va_recv hK hP (ci := 7) (q0 := 0) rfl rfl, (kpre zN_ok hK hPc hDc trivial hS hFc).2⟩ rfl rfl hl.1 rfl (lv_room (Nat.le_of_ble_eq_true rfl)) dX7_held_28 ⟨Nat.le_of_ble_eq_true rfl, Nat.le_of_ble_eq_true rfl⟩) hP hD hS hFc [0, 19, 20] [1, 2, 3, 4, 5, 6, 7, 8, 9, 10, 11, 12, 13, 14, 15, 16, 17, 18, 21] rfl rfl (by decide +kernel) (by decide +kernel) (fun r_37 u H locs hw hP hD hS => ?_)
      try dsimp only at hw
      have hP : va_P (dC, dI) vwCl (W_X7_held cyI cyJ cyO h_o a_o_sets a_o_ringFar a_o_ringTone a_o_currents a_o_warmths a_o_depths a_o_tape a_o_readFar a_o_readTone a_o_readSea a_o_code a_o_cellAt a_o_courseAt a_o_paceAt a_o_turnsAt a_o_slowAt a_o_fuelAt a_o_ringAt a_o_pieceParts a_o_dragCell a_o_dragBy a_o_sums a_o_shares a_o_keptFar a_o_image a_o_lanes a_o_sizes a_o_items a_o_movedItems o_taped o_at o_wrong o_level o_noRings o_noTones o_noFuel o_pieces o_drags o_all o_noPieces o_noDrags o_kept o_sets o_ringFar o_ringTone o_currents o_warmths o_code o_cellAt o_courseAt o_paceAt o_turnsAt o_slowAt o_fuelAt o_ringAt o_pieceParts o_dragCell o_dragBy o_sums o_keptFar o_lanes o_sizes o_items) H := hP.sub [19, 0, 1, 2, 3, 4, 5, 6, 7, 8, 9, 10, 11, 12, 13, 14, 15, 16, 17, 20, 21, 18] rfl
      have hD : va_D A (W_X7_held cyI cyJ cyO h_o a_o_sets a_o_ringFar a_o_ringTone a_o_currents a_o_warmths a_o_depths a_o_tape a_o_readFar a_o_readTone a_o_readSea a_o_code a_o_cellAt a_o_courseAt a_o_paceAt a_o_turnsAt a_o_slowAt a_o_fuelAt a_o_ringAt a_o_pieceParts a_o_dragCell a_o_dragBy a_o_sums a_o_shares a_o_keptFar a_o_image a_o_lanes a_o_sizes a_o_items a_o_movedItems o_taped o_at o_wrong o_level o_noRings o_noTones o_noFuel o_pieces o_drags o_all o_noPieces o_noDrags o_kept o_sets o_ringFar o_ringTone o_currents o_warmths o_code o_cellAt o_courseAt o_paceAt o_turnsAt o_slowAt o_fuelAt o_ringAt o_pieceParts o_dragCell o_dragBy o_sums o_keptFar o_lanes o_sizes o_items) := hD.sub [19, 0, 1, 2, 3, 4, 5, 6, 7, 8, 9, 10, 11, 12, 13, 14, 15, 16, 17, 20, 21, 18] (by decide +kernel) rfl
      clear hPc hDc hFc
      refine lv_istore (lv' := [(4, .int r_37), (0, .ref h_o), (1, .int x1), (2, .int x2), (3, .int x3)]) hx hb dX7_held_31 hl (by decide) rfl (fun ls hl => ?_)
      refine lv_iload hx hb dX7_held_33 (lv_at hl 0 rfl) ?_
      refine lv_if_ge (tgt := 41) hx hb dX7_held_35 (by decide) (fun c_38 => ?_) (fun c_38 => ?_)
      · replace hw := okT hw c_38
        clear c_38
        refine lv_bipush (v := 16) hx hb dX7_held_41 (by decide) ?_
        refine lv_iload_n hx hb dX7_held_43 rfl (lv_at hl 2 rfl) ?_
        refine lv_imul hx hb dX7_held_44 ?_
        refine lv_iload_n hx hb dX7_held_45 rfl (lv_at hl 4 rfl) ?_
        refine lv_iadd hx hb dX7_held_46 ?_
        refine lv_topi (fun x_39 ex_39 => ?_)
        replace hw := okN ex_39 hw
        clear ex_39
        refine lv_istore (lv' := [(5, .int x_39), (4, .int r_37), (0, .ref h_o), (1, .int x1), (2, .int x2), (3, .int x3)]) hx hb dX7_held_47 hl (by decide) rfl (fun ls hl => ?_)
        refine lv_aload_n hx hb dX7_held_49 rfl (lv_at hl 2 rfl) ?_
        refine lv_iload hx hb dX7_held_50 (lv_at hl 0 rfl) ?_
        have hPc := hP.sub (ws' := (W_X7_isKnown cyI cyJ cyO h_o a_o_sets a_o_ringFar a_o_ringTone a_o_currents a_o_warmths a_o_depths a_o_tape a_o_readFar a_o_readTone a_o_readSea a_o_code a_o_cellAt a_o_courseAt a_o_paceAt a_o_turnsAt a_o_slowAt a_o_fuelAt a_o_ringAt a_o_pieceParts a_o_dragCell a_o_dragBy a_o_sums a_o_shares a_o_keptFar a_o_image a_o_lanes a_o_sizes a_o_items a_o_movedItems o_taped o_at o_wrong o_level o_noRings o_noTones o_noFuel o_pieces o_drags o_all o_noPieces o_noDrags o_kept o_sets o_ringFar o_ringTone o_code o_cellAt o_courseAt o_paceAt o_turnsAt o_slowAt o_fuelAt o_ringAt o_items)) [0, 1, 2, 3, 6, 7, 8, 9, 10, 11, 12, 13, 21] rfl
        have hDc := hD.sub (ws' := (W_X7_isKnown cyI cyJ cyO h_o a_o_sets a_o_ringFar a_o_ringTone a_o_currents a_o_warmths a_o_depths a_o_tape a_o_readFar a_o_readTone a_o_readSea a_o_code a_o_cellAt a_o_courseAt a_o_paceAt a_o_turnsAt a_o_slowAt a_o_fuelAt a_o_ringAt a_o_pieceParts a_o_dragCell a_o_dragBy a_o_sums a_o_shares a_o_keptFar a_o_image a_o_lanes a_o_sizes a_o_items a_o_movedItems o_taped o_at o_wrong o_level o_noRings o_noTones o_noFuel o_pieces o_drags o_all o_noPieces o_noDrags o_kept o_sets o_ringFar o_ringTone o_code o_cellAt o_courseAt o_paceAt o_turnsAt o_slowAt o_fuelAt o_ringAt o_items)) [0, 1, 2, 3, 6, 7, 8, 9, 10, 11, 12, 13, 21] (by decide +kernel) rfl
        have hFc := va_free (wc := (W_X7_isKnown cyI cyJ cyO h_o a_o_sets a_o_ringFar a_o_ringTone a_o_currents a_o_warmths a_o_depths a_o_tape a_o_readFar a_o_readTone a_o_readSea a_o_code a_o_cellAt a_o_courseAt a_o_paceAt a_o_turnsAt a_o_slowAt a_o_fuelAt a_o_ringAt a_o_pieceParts a_o_dragCell a_o_dragBy a_o_sums a_o_shares a_o_keptFar a_o_image a_o_lanes a_o_sizes a_o_items a_o_movedItems o_taped o_at o_wrong o_level o_noRings o_noTones o_noFuel o_pieces o_drags o_all o_noPieces o_noDrags o_kept o_sets o_ringFar o_ringTone o_code o_cellAt o_courseAt o_paceAt o_turnsAt o_slowAt o_fuelAt o_ringAt o_items)) hD hS hA [0, 1, 2, 3, 6, 7, 8, 9, 10, 11, 12, 13, 21] rfl
        refine kc_i (wr := [(a_o_currents, .inl (cyI, 200, .inl o_currents)), (a_o_warmths, .inl (cyI, 200, .inl o_warmths)), (a_o_pieceParts, .inl (cyI, 20, .inl o_pieceParts)), (a_o_dragCell, .inl (cyI, 6, .inl o_dragCell)), (a_o_dragBy, .inl (cyI, 6, .inl o_dragBy)), (a_o_sums, .inl (cyJ, 100, .inr (.inl o_sums))), (a_o_keptFar, .inl (cyI, 7, .inl o_keptFar)), (a_o_lanes, .inl (cyI, 4, .inl o_lanes)), (a_o_sizes, .inl (cyI, 4, .inl o_sizes))]) (va_runV (As := [.int x_39]) (rest := []) ⟨hx, hb, hml, hown, hts⟩ (c_X7_isKnown l dC dI cyI cyJ cyO H.size h_o a_o_sets a_o_ringFar a_o_ringTone a_o_currents a_o_warmths a_o_depths a_o_tape a_o_readFar a_o_readTone a_o_readSea a_o_code a_o_cellAt a_o_courseAt a_o_paceAt a_o_turnsAt a_o_slowAt a_o_fuelAt a_o_ringAt a_o_pieceParts a_o_dragCell a_o_dragBy a_o_sums a_o_shares a_o_keptFar a_o_image a_o_lanes a_o_sizes a_o_items a_o_movedItems o_taped o_at o_wrong o_level o_noRings o_noTones o_noFuel o_pieces o_drags o_all o_noPieces o_noDrags o_kept o_sets o_ringFar o_ringTone o_code o_cellAt o_courseAt o_paceAt o_turnsAt o_slowAt o_fuelAt o_ringAt o_items x_39 _ (okb13 hw)) (cwV 1 hts (gdV (fun w h => List.mem_cons_of_mem _ h) q_1057 q_1059 qs_44 q_8 q_1060) rfl rfl rfl (by decide +kernel) ⟨Nat.le_of_ble_eq_true rfl, Nat.le_of_ble_eq_true rfl⟩) ⟨(kpre zN_ok hK hPc hDc trivial hS hFc).1, va_recv hK hP (ci := 7) (q0 := 0) rfl rfl, (kpre zN_ok hK hPc hDc trivial hS hFc).2⟩ rfl rfl hl.1 rfl (lv_room (Nat.le_of_ble_eq_true rfl)) dX7_held_52 ⟨Nat.le_of_ble_eq_true rfl, Nat.le_of_ble_eq_true rfl⟩) hP hD hS hFc [0, 1, 2, 3, 6, 7, 8, 9, 10, 11, 12, 13, 21] [4, 5, 14, 15, 16, 17, 18, 19, 20] rfl rfl (by decide +kernel) (by decide +kernel) (fun r_40 u H locs hw hP hD hS => ?_)
        obtain ⟨w_41, w_42, w_43, w_44, w_45, w_46, w_47, w_48, w_49, w_50, w_51, w_52⟩ := u
        try dsimp only at hw
        have hP : va_P (dC, dI) vwCl (W_X7_held cyI cyJ cyO h_o a_o_sets a_o_ringFar a_o_ringTone a_o_currents a_o_warmths a_o_depths a_o_tape a_o_readFar a_o_readTone a_o_readSea a_o_code a_o_cellAt a_o_courseAt a_o_paceAt a_o_turnsAt a_o_slowAt a_o_fuelAt a_o_ringAt a_o_pieceParts a_o_dragCell a_o_dragBy a_o_sums a_o_shares a_o_keptFar a_o_image a_o_lanes a_o_sizes a_o_items a_o_movedItems o_taped o_at o_wrong w_41 w_42 w_43 w_44 o_pieces o_drags o_all o_noPieces o_noDrags o_kept o_sets o_ringFar o_ringTone o_currents o_warmths w_45 w_46 w_47 w_48 w_49 w_50 w_51 w_52 o_pieceParts o_dragCell o_dragBy o_sums o_keptFar o_lanes o_sizes o_items) H := hP.sub [9, 10, 11, 12, 0, 1, 13, 14, 15, 16, 17, 18, 19, 20, 2, 3, 4, 5, 6, 7, 8, 21] rfl
        have hD : va_D A (W_X7_held cyI cyJ cyO h_o a_o_sets a_o_ringFar a_o_ringTone a_o_currents a_o_warmths a_o_depths a_o_tape a_o_readFar a_o_readTone a_o_readSea a_o_code a_o_cellAt a_o_courseAt a_o_paceAt a_o_turnsAt a_o_slowAt a_o_fuelAt a_o_ringAt a_o_pieceParts a_o_dragCell a_o_dragBy a_o_sums a_o_shares a_o_keptFar a_o_image a_o_lanes a_o_sizes a_o_items a_o_movedItems o_taped o_at o_wrong w_41 w_42 w_43 w_44 o_pieces o_drags o_all o_noPieces o_noDrags o_kept o_sets o_ringFar o_ringTone o_currents o_warmths w_45 w_46 w_47 w_48 w_49 w_50 w_51 w_52 o_pieceParts o_dragCell o_dragBy o_sums o_keptFar o_lanes o_sizes o_items) := hD.sub [9, 10, 11, 12, 0, 1, 13, 14, 15, 16, 17, 18, 19, 20, 2, 3, 4, 5, 6, 7, 8, 21] (by decide +kernel) rfl
        clear hPc hDc hFc
        refine lv_if_ne (tgt := 61) hx hb dX7_held_55 (by decide) (fun c_53 => ?_) (fun c_53 => ?_)
        · replace hw := okF hw c_53
          clear c_53
          refine lv_aload_n hx hb dX7_held_61 rfl (lv_at hl 2 rfl) ?_
          have hPc := hP.sub (ws' := (W_X7_asTold cyI cyJ cyO h_o a_o_sets a_o_ringFar a_o_ringTone a_o_currents a_o_warmths a_o_depths a_o_tape a_o_readFar a_o_readTone a_o_readSea a_o_code a_o_cellAt a_o_courseAt a_o_paceAt a_o_turnsAt a_o_slowAt a_o_fuelAt a_o_ringAt a_o_pieceParts a_o_dragCell a_o_dragBy a_o_sums a_o_shares a_o_keptFar a_o_image a_o_lanes a_o_sizes a_o_items a_o_movedItems o_taped o_at o_wrong w_41 w_42 w_43 w_44 o_pieces o_drags o_all o_noPieces o_noDrags o_kept)) [0] rfl
          have hDc := hD.sub (ws' := (W_X7_asTold cyI cyJ cyO h_o a_o_sets a_o_ringFar a_o_ringTone a_o_currents a_o_warmths a_o_depths a_o_tape a_o_readFar a_o_readTone a_o_readSea a_o_code a_o_cellAt a_o_courseAt a_o_paceAt a_o_turnsAt a_o_slowAt a_o_fuelAt a_o_ringAt a_o_pieceParts a_o_dragCell a_o_dragBy a_o_sums a_o_shares a_o_keptFar a_o_image a_o_lanes a_o_sizes a_o_items a_o_movedItems o_taped o_at o_wrong w_41 w_42 w_43 w_44 o_pieces o_drags o_all o_noPieces o_noDrags o_kept)) [0] (by decide +kernel) rfl
          have hFc := va_free (wc := (W_X7_asTold cyI cyJ cyO h_o a_o_sets a_o_ringFar a_o_ringTone a_o_currents a_o_warmths a_o_depths a_o_tape a_o_readFar a_o_readTone a_o_readSea a_o_code a_o_cellAt a_o_courseAt a_o_paceAt a_o_turnsAt a_o_slowAt a_o_fuelAt a_o_ringAt a_o_pieceParts a_o_dragCell a_o_dragBy a_o_sums a_o_shares a_o_keptFar a_o_image a_o_lanes a_o_sizes a_o_items a_o_movedItems o_taped o_at o_wrong w_41 w_42 w_43 w_44 o_pieces o_drags o_all o_noPieces o_noDrags o_kept)) hD hS hA [0] rfl
          refine kc_v (wr := [(a_o_sets, .inl (cyI, 8, .inl o_sets)), (a_o_ringFar, .inl (cyI, 7, .inl o_ringFar)), (a_o_ringTone, .inl (cyI, 7, .inl o_ringTone)), (a_o_currents, .inl (cyI, 200, .inl o_currents)), (a_o_warmths, .inl (cyI, 200, .inl o_warmths)), (a_o_code, .inl (cyI, 7, .inl w_45)), (a_o_cellAt, .inl (cyI, 7, .inl w_46)), (a_o_courseAt, .inl (cyI, 7, .inl w_47)), (a_o_paceAt, .inl (cyI, 7, .inl w_48)), (a_o_turnsAt, .inl (cyI, 7, .inl w_49)), (a_o_slowAt, .inl (cyI, 7, .inl w_50)), (a_o_fuelAt, .inl (cyI, 7, .inl w_51)), (a_o_ringAt, .inl (cyI, 7, .inl w_52)), (a_o_pieceParts, .inl (cyI, 20, .inl o_pieceParts)), (a_o_dragCell, .inl (cyI, 6, .inl o_dragCell)), (a_o_dragBy, .inl (cyI, 6, .inl o_dragBy)), (a_o_sums, .inl (cyJ, 100, .inr (.inl o_sums))), (a_o_keptFar, .inl (cyI, 7, .inl o_keptFar)), (a_o_lanes, .inl (cyI, 4, .inl o_lanes)), (a_o_sizes, .inl (cyI, 4, .inl o_sizes)), (a_o_items, .inl (cyI, 64, .inl o_items))]) (va_runV (As := []) (rest := []) ⟨hx, hb, hml, hown, hts⟩ (c_X7_asTold l dC dI cyI cyJ cyO H.size h_o a_o_sets a_o_ringFar a_o_ringTone a_o_currents a_o_warmths a_o_depths a_o_tape a_o_readFar a_o_readTone a_o_readSea a_o_code a_o_cellAt a_o_courseAt a_o_paceAt a_o_turnsAt a_o_slowAt a_o_fuelAt a_o_ringAt a_o_pieceParts a_o_dragCell a_o_dragBy a_o_sums a_o_shares a_o_keptFar a_o_image a_o_lanes a_o_sizes a_o_items a_o_movedItems o_taped o_at o_wrong w_41 w_42 w_43 w_44 o_pieces o_drags o_all o_noPieces o_noDrags o_kept _ (okb3 hw)) (cwV 0 hts (gdV (fun w h => List.mem_cons_of_mem _ h) q_896 q_898 qs_28 q_8 q_899) rfl rfl rfl (by decide +kernel) ⟨Nat.le_of_ble_eq_true rfl, Nat.le_of_ble_eq_true rfl⟩) ⟨(kpre zN_ok hK hPc hDc trivial hS hFc).1, va_recv hK hP (ci := 7) (q0 := 0) rfl rfl, (kpre zN_ok hK hPc hDc trivial hS hFc).2⟩ rfl rfl hl.1 rfl (lv_room (Nat.le_of_ble_eq_true rfl)) dX7_held_62 ⟨Nat.le_of_ble_eq_true rfl, Nat.le_of_ble_eq_true rfl⟩) hP hD hS hFc [0] [1, 2, 3, 4, 5, 6, 7, 8, 9, 10, 11, 12, 13, 14, 15, 16, 17, 18, 19, 20, 21] rfl rfl (by decide +kernel) (by decide +kernel) (fun u H locs hw hP hD hS => ?_)
          obtain ⟨w_54, w_55, w_56⟩ := u
          try dsimp only at hw
          have hP : va_P (dC, dI) vwCl (W_X7_held cyI cyJ cyO h_o a_o_sets a_o_ringFar a_o_ringTone a_o_currents a_o_warmths a_o_depths a_o_tape a_o_readFar a_o_readTone a_o_readSea a_o_code a_o_cellAt a_o_courseAt a_o_paceAt a_o_turnsAt a_o_slowAt a_o_fuelAt a_o_ringAt a_o_pieceParts a_o_dragCell a_o_dragBy a_o_sums a_o_shares a_o_keptFar a_o_image a_o_lanes a_o_sizes a_o_items a_o_movedItems o_taped o_at o_wrong w_41 w_54 w_55 w_56 o_pieces o_drags o_all o_noPieces o_noDrags o_kept o_sets o_ringFar o_ringTone o_currents o_warmths w_45 w_46 w_47 w_48 w_49 w_50 w_51 w_52 o_pieceParts o_dragCell o_dragBy o_sums o_keptFar o_lanes o_sizes o_items) H := hP.sub [21, 0, 1, 2, 3, 4, 5, 6, 7, 8, 9, 10, 11, 12, 13, 14, 15, 16, 17, 18, 19, 20] rfl
          have hD : va_D A (W_X7_held cyI cyJ cyO h_o a_o_sets a_o_ringFar a_o_ringTone a_o_currents a_o_warmths a_o_depths a_o_tape a_o_readFar a_o_readTone a_o_readSea a_o_code a_o_cellAt a_o_courseAt a_o_paceAt a_o_turnsAt a_o_slowAt a_o_fuelAt a_o_ringAt a_o_pieceParts a_o_dragCell a_o_dragBy a_o_sums a_o_shares a_o_keptFar a_o_image a_o_lanes a_o_sizes a_o_items a_o_movedItems o_taped o_at o_wrong w_41 w_54 w_55 w_56 o_pieces o_drags o_all o_noPieces o_noDrags o_kept o_sets o_ringFar o_ringTone o_currents o_warmths w_45 w_46 w_47 w_48 w_49 w_50 w_51 w_52 o_pieceParts o_dragCell o_dragBy o_sums o_keptFar o_lanes o_sizes o_items) := hD.sub [21, 0, 1, 2, 3, 4, 5, 6, 7, 8, 9, 10, 11, 12, 13, 14, 15, 16, 17, 18, 19, 20] (by decide +kernel) rfl
          clear hPc hDc hFc
          refine lv_aload_n hx hb dX7_held_65 rfl (lv_at hl 2 rfl) ?_
          refine lv_iconst (v := 1) hx hb dX7_held_66 (by decide) ?_
          refine va_put (D := (dC, dI)) (ci := 7) (v := .int 1) (ty := .boolean) (C := RX7) (T := TX7) (N := 42) hx hb hts hi7 tyX7 tyX7_ok nmX7 hown hK hP hD hS 0 rfl rfl 23 (by decide) hq6 (fun _ h9 => h9) rfl (by decide +kernel) rfl rfl (Nat.le_of_ble_eq_true rfl) dX7_held_67 (fun H locs hP hD hS => ?_)
          have hP : va_P (dC, dI) vwCl (W_X7_held cyI cyJ cyO h_o a_o_sets a_o_ringFar a_o_ringTone a_o_currents a_o_warmths a_o_depths a_o_tape a_o_readFar a_o_readTone a_o_readSea a_o_code a_o_cellAt a_o_courseAt a_o_paceAt a_o_turnsAt a_o_slowAt a_o_fuelAt a_o_ringAt a_o_pieceParts a_o_dragCell a_o_dragBy a_o_sums a_o_shares a_o_keptFar a_o_image a_o_lanes a_o_sizes a_o_items a_o_movedItems o_taped o_at o_wrong w_41 w_54 1 w_56 o_pieces o_drags o_all o_noPieces o_noDrags o_kept o_sets o_ringFar o_ringTone o_currents o_warmths w_45 w_46 w_47 w_48 w_49 w_50 w_51 w_52 o_pieceParts o_dragCell o_dragBy o_sums o_keptFar o_lanes o_sizes o_items) H := hP
          have hD : va_D A (W_X7_held cyI cyJ cyO h_o a_o_sets a_o_ringFar a_o_ringTone a_o_currents a_o_warmths a_o_depths a_o_tape a_o_readFar a_o_readTone a_o_readSea a_o_code a_o_cellAt a_o_courseAt a_o_paceAt a_o_turnsAt a_o_slowAt a_o_fuelAt a_o_ringAt a_o_pieceParts a_o_dragCell a_o_dragBy a_o_sums a_o_shares a_o_keptFar a_o_image a_o_lanes a_o_sizes a_o_items a_o_movedItems o_taped o_at o_wrong w_41 w_54 1 w_56 o_pieces o_drags o_all o_noPieces o_noDrags o_kept o_sets o_ringFar o_ringTone o_currents o_warmths w_45 w_46 w_47 w_48 w_49 w_50 w_51 w_52 o_pieceParts o_dragCell o_dragBy o_sums o_keptFar o_lanes o_sizes o_items) := hD
          refine lv_aload_n hx hb dX7_held_70 rfl (lv_at hl 2 rfl) ?_
          refine lv_bipush (v := 15) hx hb dX7_held_71 (by decide) ?_
          refine va_put (D := (dC, dI)) (ci := 7) (v := .int 15) (ty := .int) (C := RX7) (T := TX7) (N := 42) hx hb hts hi7 tyX7 tyX7_ok nmX7 hown hK hP hD hS 0 rfl rfl 32 (by decide) hq7 (fun _ h9 => h9) rfl (by decide +kernel) rfl rfl (Nat.le_of_ble_eq_true rfl) dX7_held_73 (fun H locs hP hD hS => ?_)
          have hP : va_P (dC, dI) vwCl (W_X7_held cyI cyJ cyO h_o a_o_sets a_o_ringFar a_o_ringTone a_o_currents a_o_warmths a_o_depths a_o_tape a_o_readFar a_o_readTone a_o_readSea a_o_code a_o_cellAt a_o_courseAt a_o_paceAt a_o_turnsAt a_o_slowAt a_o_fuelAt a_o_ringAt a_o_pieceParts a_o_dragCell a_o_dragBy a_o_sums a_o_shares a_o_keptFar a_o_image a_o_lanes a_o_sizes a_o_items a_o_movedItems o_taped o_at o_wrong w_41 w_54 1 w_56 o_pieces o_drags o_all 15 o_noDrags o_kept o_sets o_ringFar o_ringTone o_currents o_warmths w_45 w_46 w_47 w_48 w_49 w_50 w_51 w_52 o_pieceParts o_dragCell o_dragBy o_sums o_keptFar o_lanes o_sizes o_items) H := hP
          have hD : va_D A (W_X7_held cyI cyJ cyO h_o a_o_sets a_o_ringFar a_o_ringTone a_o_currents a_o_warmths a_o_depths a_o_tape a_o_readFar a_o_readTone a_o_readSea a_o_code a_o_cellAt a_o_courseAt a_o_paceAt a_o_turnsAt a_o_slowAt a_o_fuelAt a_o_ringAt a_o_pieceParts a_o_dragCell a_o_dragBy a_o_sums a_o_shares a_o_keptFar a_o_image a_o_lanes a_o_sizes a_o_items a_o_movedItems o_taped o_at o_wrong w_41 w_54 1 w_56 o_pieces o_drags o_all 15 o_noDrags o_kept o_sets o_ringFar o_ringTone o_currents o_warmths w_45 w_46 w_47 w_48 w_49 w_50 w_51 w_52 o_pieceParts o_dragCell o_dragBy o_sums o_keptFar o_lanes o_sizes o_items) := hD
          refine lv_aload_n hx hb dX7_held_76 rfl (lv_at hl 2 rfl) ?_
          refine lv_iconst (v := 1) hx hb dX7_held_77 (by decide) ?_
          refine va_put (D := (dC, dI)) (ci := 7) (v := .int 1) (ty := .boolean) (C := RX7) (T := TX7) (N := 42) hx hb hts hi7 tyX7 tyX7_ok nmX7 hown hK hP hD hS 0 rfl rfl 33 (by decide) hq8 (fun _ h9 => h9) rfl (by decide +kernel) rfl rfl (Nat.le_of_ble_eq_true rfl) dX7_held_78 (fun H locs hP hD hS => ?_)
          have hP : va_P (dC, dI) vwCl (W_X7_held cyI cyJ cyO h_o a_o_sets a_o_ringFar a_o_ringTone a_o_currents a_o_warmths a_o_depths a_o_tape a_o_readFar a_o_readTone a_o_readSea a_o_code a_o_cellAt a_o_courseAt a_o_paceAt a_o_turnsAt a_o_slowAt a_o_fuelAt a_o_ringAt a_o_pieceParts a_o_dragCell a_o_dragBy a_o_sums a_o_shares a_o_keptFar a_o_image a_o_lanes a_o_sizes a_o_items a_o_movedItems o_taped o_at o_wrong w_41 w_54 1 w_56 o_pieces o_drags o_all 15 1 o_kept o_sets o_ringFar o_ringTone o_currents o_warmths w_45 w_46 w_47 w_48 w_49 w_50 w_51 w_52 o_pieceParts o_dragCell o_dragBy o_sums o_keptFar o_lanes o_sizes o_items) H := hP
          have hD : va_D A (W_X7_held cyI cyJ cyO h_o a_o_sets a_o_ringFar a_o_ringTone a_o_currents a_o_warmths a_o_depths a_o_tape a_o_readFar a_o_readTone a_o_readSea a_o_code a_o_cellAt a_o_courseAt a_o_paceAt a_o_turnsAt a_o_slowAt a_o_fuelAt a_o_ringAt a_o_pieceParts a_o_dragCell a_o_dragBy a_o_sums a_o_shares a_o_keptFar a_o_image a_o_lanes a_o_sizes a_o_items a_o_movedItems o_taped o_at o_wrong w_41 w_54 1 w_56 o_pieces o_drags o_all 15 1 o_kept o_sets o_ringFar o_ringTone o_currents o_warmths w_45 w_46 w_47 w_48 w_49 w_50 w_51 w_52 o_pieceParts o_dragCell o_dragBy o_sums o_keptFar o_lanes o_sizes o_items) := hD
          refine lv_iconst (v := 1) hx hb dX7_held_81 (by decide) ?_
          refine lv_istore (lv' := [(6, .int 1), (5, .int x_39), (4, .int r_37), (0, .ref h_o), (1, .int x1), (2, .int x2), (3, .int x3)]) hx hb dX7_held_82 hl (by decide) rfl (fun ls hl => ?_)
          exact w84 FU x_39 1 w_41 w_54 1 w_56 o_all 15 1 o_ringFar w_45 w_46 w_47 w_48 w_49 w_50 w_51 w_52 o_sums o_keptFar _ _ hP hD hS _ (lv_sub hl [3, 1, 0] rfl) hw
        · replace hw := okT hw c_53
          clear c_53
          refine lv_bipush (v := (-2)) hx hb dX7_held_58 (by decide) ?_
          rw [hQ]
          exact W.iret (v := (-2)) hx hb hr (fun t ht hW => ⟨⟨(-2), (w_41, w_42, w_43, w_44, o_all, o_noPieces, o_noDrags, o_ringFar, w_45, w_46, w_47, w_48, w_49, w_50, w_51, w_52, o_sums, o_keptFar), rfl, okS hw, by rw [ht]; exact hP, va_K.moved hW.alike hK, hD⟩, hS.F ht⟩) hS.2.2 dX7_held_60
      · replace hw := okF hw c_38
        clear c_38
        refine lv_iload hx hb dX7_held_38 (lv_at hl 0 rfl) ?_
        rw [hQ]
        exact W.iret (v := r_37) hx hb hr (fun t ht hW => ⟨⟨r_37, (o_level, o_noRings, o_noTones, o_noFuel, o_all, o_noPieces, o_noDrags, o_ringFar, o_code, o_cellAt, o_courseAt, o_paceAt, o_turnsAt, o_slowAt, o_fuelAt, o_ringAt, o_sums, o_keptFar), rfl, okS hw, by rw [ht]; exact hP, va_K.moved hW.alike hK, hD⟩, hS.F ht⟩) hS.2.2 dX7_held_40
    · replace hw := okT hw c_36
      clear c_36
      refine lv_iconst (v := (-1)) hx hb dX7_held_14 (by decide) ?_
      rw [hQ]
      exact W.iret (v := (-1)) hx hb hr (fun t ht hW => ⟨⟨(-1), (o_level, o_noRings, o_noTones, o_noFuel, o_all, o_noPieces, o_noDrags, o_ringFar, o_code, o_cellAt, o_courseAt, o_paceAt, o_turnsAt, o_slowAt, o_fuelAt, o_ringAt, o_sums, o_keptFar), rfl, okS hw, by rw [ht]; exact hP, va_K.moved hW.alike hK, hD⟩, hS.F ht⟩) hS.2.2 dX7_held_15
/-! ===== X7_saves ===== -/
theorem dX7_saves_0 : decode cX7_saves 0 = .ok (.iconst 0, 1) := by decide +kernel
theorem dX7_saves_1 : decode cX7_saves 1 = .ok (.istore_n 3, 1) := by decide +kernel
theorem dX7_saves_2 : decode cX7_saves 2 = .ok (.iload_n 3, 1) := by decide +kernel
theorem dX7_saves_3 : decode cX7_saves 3 = .ok (.aload_n 0, 1) := by decide +kernel
theorem dX7_saves_4 : decode cX7_saves 4 = .ok (.arraylength, 1) := by decide +kernel
theorem dX7_saves_5 : decode cX7_saves 5 = .ok (.if_icmp .ge 17, 3) := by decide +kernel
theorem dX7_saves_8 : decode cX7_saves 8 = .ok (.aload_n 1, 1) := by decide +kernel
theorem dX7_saves_9 : decode cX7_saves 9 = .ok (.iload_n 2, 1) := by decide +kernel
theorem dX7_saves_10 : decode cX7_saves 10 = .ok (.iload_n 3, 1) := by decide +kernel
theorem dX7_saves_11 : decode cX7_saves 11 = .ok (.iadd, 1) := by decide +kernel
theorem dX7_saves_12 : decode cX7_saves 12 = .ok (.aload_n 0, 1) := by decide +kernel
theorem dX7_saves_13 : decode cX7_saves 13 = .ok (.iload_n 3, 1) := by decide +kernel
theorem dX7_saves_14 : decode cX7_saves 14 = .ok (.iaload, 1) := by decide +kernel
theorem dX7_saves_15 : decode cX7_saves 15 = .ok (.iastore, 1) := by decide +kernel
theorem dX7_saves_16 : decode cX7_saves 16 = .ok (.iinc 3 1, 3) := by decide +kernel
theorem dX7_saves_19 : decode cX7_saves 19 = .ok (.goto (-17), 3) := by decide +kernel
theorem dX7_saves_22 : decode cX7_saves 22 = .ok (.iload_n 2, 1) := by decide +kernel
theorem dX7_saves_23 : decode cX7_saves 23 = .ok (.aload_n 0, 1) := by decide +kernel
theorem dX7_saves_24 : decode cX7_saves 24 = .ok (.arraylength, 1) := by decide +kernel
theorem dX7_saves_25 : decode cX7_saves 25 = .ok (.iadd, 1) := by decide +kernel
theorem dX7_saves_26 : decode cX7_saves 26 = .ok (.ireturn, 1) := by decide +kernel
abbrev W_X7_saves (cyI cyJ cyO : ClassId) (n_p1 n_p2 : Nat) (a_p1 a_p2 : Nat) (p1_arr : Nat → Int32) (p2_arr : Nat → Int32) : va_W := [(a_p1, .inl (cyI, n_p1, .inl p1_arr)), (a_p2, .inl (cyI, n_p2, .inl p2_arr))]
def f_X7_saves_L2b (n_p1 n_p2 : Nat) (k2 : Int32 → Int32 → (Nat → Int32) → (Nat → Int32) → Option (Int32 × (Nat → Int32))) (v2 : Int32) (v3 : Int32) (p1_arr : Nat → Int32) (p2_arr : Nat → Int32) : Option (Int32 × (Nat → Int32)) :=
  if (Int32.ofNat n_p1) ≤ v3 then
    some (v2 + (Int32.ofNat n_p1), p2_arr)
  else
    chk (¬ (v3 < 0 ∨ n_p1 ≤ v3.toNatClampNeg)) <|
    nm (p1_arr v3.toNatClampNeg) fun x_1 =>
    chk (¬ (v2 + v3 < 0 ∨ n_p2 ≤ (v2 + v3).toNatClampNeg)) <|
    nm (v3 + 1) fun x_2 =>
    k2 v2 x_2 p1_arr (upd p2_arr (v2 + v3).toNatClampNeg x_1)
def f_X7_saves_L2 (n_p1 n_p2 : Nat) : Nat → Int32 → Int32 → (Nat → Int32) → (Nat → Int32) → Option (Int32 × (Nat → Int32))
  | 0 => fun _ _ _ _ => none
  | n + 1 => f_X7_saves_L2b n_p1 n_p2 (f_X7_saves_L2 n_p1 n_p2 n)
def f_X7_saves (n_p1 n_p2 : Nat) (x3 : Int32) (p1_arr : Nat → Int32) (p2_arr : Nat → Int32) : Option (Int32 × (Nat → Int32)) :=
  f_X7_saves_L2 n_p1 n_p2 FU x3 0 p1_arr p2_arr
abbrev rm_X7_saves : Room := { frames := 0, cells := 0, slots := 0, locals := 0 }
set_option maxRecDepth 100000 in
set_option maxHeartbeats 4000000 in
theorem c_X7_saves (l : Launch) (dC : Nat → ClassId) (dI : Nat → Nat → Nat) (cyI cyJ cyO : ClassId) (sz : Nat) (n_p1 n_p2 : Nat) (a_p1 a_p2 : Nat) (p1_arr : Nat → Int32) (p2_arr : Nat → Int32) (x3 : Int32) (post : (Int32 × (Nat → Int32)) → Prop) (hf : okP (f_X7_saves n_p1 n_p2 x3 p1_arr p2_arr) post) : Ci l (dC, dI) (tyL cyI cyJ cyO) yX7_saves wsX7_saves rm_X7_saves [.ref a_p1, .ref a_p2, .int x3] sz (W_X7_saves cyI cyJ cyO n_p1 n_p2 a_p1 a_p2 p1_arr p2_arr) zN (fun r u => post (r, u)) (fun u => (W_X7_saves cyI cyJ cyO n_p1 n_p2 a_p1 a_p2 p1_arr u)) := by
  refine Met.ofW (cc := cX7_saves) (maxL := 4) (ret := (some .int)) (by decide) rfl ?_
  intro p e s m args below meth c s₁ B hml hv
  obtain ⟨rfl, hsz, hP, hK, hD0, hZ⟩ := hv
  have hx := B.exec
  have hb := B.bytes
  have hr := B.returns
  have hts := atoms_spec (ws := wsX7_saves) B.pre
  have hown : s.vm.findClass RX7 = some m.cls := findClass_of_methodNamed B.named
  have hlocks := B.notSynchronized
  subst hsz
  have hD := hD0.self (sz := s.heap.size)
  generalize hAe : va_A (W_X7_saves cyI cyJ cyO n_p1 n_p2 a_p1 a_p2 p1_arr p2_arr) s.heap.size = A at hD hZ ⊢
  have hA : ∀ q : Nat, s.heap.size ≤ q → A q := fun q h => by rw [← hAe]; exact Or.inr h
  clear hAe hD0
  have hS : va_S A s.heap s.heap [] := va_S.rf
  have hl := lv_entry ([.ref a_p1, .ref a_p2, .int x3]) (n := 4) (Nat.le_of_ble_eq_true rfl)
  rw [lg_entry_eq]
  generalize (lg_sl ([.ref a_p1, .ref a_p2, .int x3]) ++ List.replicate (4 - (lg_sl ([.ref a_p1, .ref a_p2, .int x3])).length) Slot.unset).toArray = ls at hl ⊢
  have hl : lv_has ls 4 [(0, .ref a_p1), (1, .ref a_p2), (2, .int x3)] := hl
  refine kW (fun Q hQ => ?_)
  have hw := hf
  have w2 : ∀ (n : Nat), ∀ (v2 : Int32) (v3 : Int32) (p2_arr : Nat → Int32) (H : Heap) (locs : List Loc), va_P (dC, dI) vwCl (W_X7_saves cyI cyJ cyO n_p1 n_p2 a_p1 a_p2 p1_arr p2_arr) H → va_D A (W_X7_saves cyI cyJ cyO n_p1 n_p2 a_p1 a_p2 p1_arr p2_arr) → va_S A s.heap H locs → ∀ (ls : Array Slot), lv_has ls 4 [(0, .ref a_p1), (1, .ref a_p2), (2, .int v2), (3, .int v3)] → okP (f_X7_saves_L2 n_p1 n_p2 n v2 v3 p1_arr p2_arr) post → W p l e (headSpec wsX7_saves rm_X7_saves).room s m ([.ref a_p1, .ref a_p2, .int x3] : List Value).toArray below meth c H locs 0 0 Q (F0 m 2 ls []) := by
    intro n
    induction n with
    | zero =>
      intro v2 v3 p2_arr H locs hP hD hS ls hl hw
      exact (ok0 hw).elim
    | succ n2 ih2 =>
      intro v2 v3 p2_arr H locs hP hD hS ls hl hw
      replace hw : okP (f_X7_saves_L2b n_p1 n_p2 (f_X7_saves_L2 n_p1 n_p2 n2) v2 v3 p1_arr p2_arr) post := hw
      unfold f_X7_saves_L2b at hw
      refine lv_iload_n hx hb dX7_saves_2 rfl (lv_at hl 3 rfl) ?_
      refine lv_aload_n hx hb dX7_saves_3 rfl (lv_at hl 0 rfl) ?_
      refine va_alen (v := Int32.ofNat n_p1) hx hb hK hP 0 0 rfl rfl rfl dX7_saves_4 ?_
      refine lv_icmp_ge (tgt := 22) hx hb dX7_saves_5 (by decide) (fun c_1 => ?_) (fun c_1 => ?_)
      · replace hw := okT hw c_1
        clear c_1
        refine lv_iload_n hx hb dX7_saves_22 rfl (lv_at hl 2 rfl) ?_
        refine lv_aload_n hx hb dX7_saves_23 rfl (lv_at hl 0 rfl) ?_
        refine va_alen (v := Int32.ofNat n_p1) hx hb hK hP 0 0 rfl rfl rfl dX7_saves_24 ?_
        refine lv_iadd hx hb dX7_saves_25 ?_
        rw [hQ]
        exact W.iret (v := v2 + (Int32.ofNat n_p1)) hx hb hr (fun t ht hW => ⟨⟨v2 + (Int32.ofNat n_p1), p2_arr, rfl, okS hw, by rw [ht]; exact hP, va_K.moved hW.alike hK, hD⟩, hS.F ht⟩) hS.2.2 dX7_saves_26
      · replace hw := okF hw c_1
        clear c_1
        refine lv_aload_n hx hb dX7_saves_8 rfl (lv_at hl 1 rfl) ?_
        refine lv_iload_n hx hb dX7_saves_9 rfl (lv_at hl 2 rfl) ?_
        refine lv_iload_n hx hb dX7_saves_10 rfl (lv_at hl 3 rfl) ?_
        refine lv_iadd hx hb dX7_saves_11 ?_
        refine lv_aload_n hx hb dX7_saves_12 rfl (lv_at hl 0 rfl) ?_
        refine lv_iload_n hx hb dX7_saves_13 rfl (lv_at hl 3 rfl) ?_
        obtain ⟨h_2, hw⟩ := okC hw
        refine va_iald (i := v3) hx hb hK hP 0 0 rfl rfl h_2 dX7_saves_14 ?_
        refine lv_topi (fun x_3 ex_3 => ?_)
        replace hw := okN ex_3 hw
        clear ex_3
        obtain ⟨h_4, hw⟩ := okC hw
        refine va_iast (i := v2 + v3) (x := x_3) hx hb hK hP hD hS 1 0 rfl rfl h_4 dX7_saves_15 (fun H locs hP hD hS => ?_)
        have hP : va_P (dC, dI) vwCl (W_X7_saves cyI cyJ cyO n_p1 n_p2 a_p1 a_p2 p1_arr (upd p2_arr (v2 + v3).toNatClampNeg x_3)) H := hP
        have hD : va_D A (W_X7_saves cyI cyJ cyO n_p1 n_p2 a_p1 a_p2 p1_arr (upd p2_arr (v2 + v3).toNatClampNeg x_3)) := hD
        obtain ⟨x_5, ex_5⟩ : ∃ y : Int32, y = v3 + 1 := ⟨_, rfl⟩
        replace hw := okN ex_5 hw
        refine lv_iinc (v := x_5) (lv' := [(3, .int x_5), (0, .ref a_p1), (1, .ref a_p2), (2, .int v2)]) hx hb dX7_saves_16 hl (k := 3) rfl (by rw [ex_5]; rfl) (by decide) rfl (fun ls hl => ?_)
        clear ex_5
        refine lv_goto (tgt := 2) hx hb dX7_saves_19 (by decide) ?_
        exact ih2 v2 x_5 (upd p2_arr (v2 + v3).toNatClampNeg x_3) _ _ hP hD hS _ (lv_sub hl [1, 2, 3, 0] rfl) hw
  unfold f_X7_saves at hw
  have hP : va_P (dC, dI) vwCl (W_X7_saves cyI cyJ cyO n_p1 n_p2 a_p1 a_p2 p1_arr p2_arr) s.heap := hP
  obtain ⟨H, hH⟩ : ∃ H, H = s.heap := ⟨_, rfl⟩
  obtain ⟨locs, hlo⟩ : ∃ x : List Loc, x = [] := ⟨_, rfl⟩
  have hP : va_P (dC, dI) vwCl (W_X7_saves cyI cyJ cyO n_p1 n_p2 a_p1 a_p2 p1_arr p2_arr) H := by rw [hH]; exact hP
  have hS : va_S A s.heap H locs := by rw [hH, hlo]; exact hS
  refine kH hH hlo ?_
  clear hH hlo
  refine lv_iconst (v := 0) hx hb dX7_saves_0 (by decide) ?_
  refine lv_istore_n (lv' := [(3, .int 0), (0, .ref a_p1), (1, .ref a_p2), (2, .int x3)]) hx hb dX7_saves_1 rfl hl (by decide) rfl (fun ls hl => ?_)
  exact w2 FU x3 0 p2_arr _ _ hP hD hS _ (lv_sub hl [1, 2, 3, 0] rfl) hw
/-! ===== X7_gives ===== -/
theorem dX7_gives_0 : decode cX7_gives 0 = .ok (.iconst 0, 1) := by decide +kernel
theorem dX7_gives_1 : decode cX7_gives 1 = .ok (.istore_n 3, 1) := by decide +kernel
theorem dX7_gives_2 : decode cX7_gives 2 = .ok (.iload_n 3, 1) := by decide +kernel
theorem dX7_gives_3 : decode cX7_gives 3 = .ok (.aload_n 2, 1) := by decide +kernel
theorem dX7_gives_4 : decode cX7_gives 4 = .ok (.arraylength, 1) := by decide +kernel
theorem dX7_gives_5 : decode cX7_gives 5 = .ok (.if_icmp .ge 17, 3) := by decide +kernel
theorem dX7_gives_8 : decode cX7_gives 8 = .ok (.aload_n 2, 1) := by decide +kernel
theorem dX7_gives_9 : decode cX7_gives 9 = .ok (.iload_n 3, 1) := by decide +kernel
theorem dX7_gives_10 : decode cX7_gives 10 = .ok (.aload_n 0, 1) := by decide +kernel
theorem dX7_gives_11 : decode cX7_gives 11 = .ok (.iload_n 1, 1) := by decide +kernel
theorem dX7_gives_12 : decode cX7_gives 12 = .ok (.iload_n 3, 1) := by decide +kernel
theorem dX7_gives_13 : decode cX7_gives 13 = .ok (.iadd, 1) := by decide +kernel
theorem dX7_gives_14 : decode cX7_gives 14 = .ok (.iaload, 1) := by decide +kernel
theorem dX7_gives_15 : decode cX7_gives 15 = .ok (.iastore, 1) := by decide +kernel
theorem dX7_gives_16 : decode cX7_gives 16 = .ok (.iinc 3 1, 3) := by decide +kernel
theorem dX7_gives_19 : decode cX7_gives 19 = .ok (.goto (-17), 3) := by decide +kernel
theorem dX7_gives_22 : decode cX7_gives 22 = .ok (.iload_n 1, 1) := by decide +kernel
theorem dX7_gives_23 : decode cX7_gives 23 = .ok (.aload_n 2, 1) := by decide +kernel
theorem dX7_gives_24 : decode cX7_gives 24 = .ok (.arraylength, 1) := by decide +kernel
theorem dX7_gives_25 : decode cX7_gives 25 = .ok (.iadd, 1) := by decide +kernel
theorem dX7_gives_26 : decode cX7_gives 26 = .ok (.ireturn, 1) := by decide +kernel
abbrev W_X7_gives (cyI cyJ cyO : ClassId) (n_p1 n_p3 : Nat) (a_p1 a_p3 : Nat) (p1_arr : Nat → Int32) (p3_arr : Nat → Int32) : va_W := [(a_p1, .inl (cyI, n_p1, .inl p1_arr)), (a_p3, .inl (cyI, n_p3, .inl p3_arr))]
def f_X7_gives_L2b (n_p1 n_p3 : Nat) (k2 : Int32 → Int32 → (Nat → Int32) → (Nat → Int32) → Option (Int32 × (Nat → Int32))) (v1 : Int32) (v3 : Int32) (p1_arr : Nat → Int32) (p3_arr : Nat → Int32) : Option (Int32 × (Nat → Int32)) :=
  if (Int32.ofNat n_p3) ≤ v3 then
    some (v1 + (Int32.ofNat n_p3), p3_arr)
  else
    chk (¬ (v1 + v3 < 0 ∨ n_p1 ≤ (v1 + v3).toNatClampNeg)) <|
    nm (p1_arr (v1 + v3).toNatClampNeg) fun x_1 =>
    chk (¬ (v3 < 0 ∨ n_p3 ≤ v3.toNatClampNeg)) <|
    nm (v3 + 1) fun x_2 =>
    k2 v1 x_2 p1_arr (upd p3_arr v3.toNatClampNeg x_1)
def f_X7_gives_L2 (n_p1 n_p3 : Nat) : Nat → Int32 → Int32 → (Nat → Int32) → (Nat → Int32) → Option (Int32 × (Nat → Int32))
  | 0 => fun _ _ _ _ => none
  | n + 1 => f_X7_gives_L2b n_p1 n_p3 (f_X7_gives_L2 n_p1 n_p3 n)
def f_X7_gives (n_p1 n_p3 : Nat) (x2 : Int32) (p1_arr : Nat → Int32) (p3_arr : Nat → Int32) : Option (Int32 × (Nat → Int32)) :=
  f_X7_gives_L2 n_p1 n_p3 FU x2 0 p1_arr p3_arr
abbrev rm_X7_gives : Room := { frames := 0, cells := 0, slots := 0, locals := 0 }
set_option maxRecDepth 100000 in
set_option maxHeartbeats 4000000 in
theorem c_X7_gives (l : Launch) (dC : Nat → ClassId) (dI : Nat → Nat → Nat) (cyI cyJ cyO : ClassId) (sz : Nat) (n_p1 n_p3 : Nat) (a_p1 a_p3 : Nat) (p1_arr : Nat → Int32) (p3_arr : Nat → Int32) (x2 : Int32) (post : (Int32 × (Nat → Int32)) → Prop) (hf : okP (f_X7_gives n_p1 n_p3 x2 p1_arr p3_arr) post) : Ci l (dC, dI) (tyL cyI cyJ cyO) yX7_gives wsX7_gives rm_X7_gives [.ref a_p1, .int x2, .ref a_p3] sz (W_X7_gives cyI cyJ cyO n_p1 n_p3 a_p1 a_p3 p1_arr p3_arr) zN (fun r u => post (r, u)) (fun u => (W_X7_gives cyI cyJ cyO n_p1 n_p3 a_p1 a_p3 p1_arr u)) := by
  refine Met.ofW (cc := cX7_gives) (maxL := 4) (ret := (some .int)) (by decide) rfl ?_
  intro p e s m args below meth c s₁ B hml hv
  obtain ⟨rfl, hsz, hP, hK, hD0, hZ⟩ := hv
  have hx := B.exec
  have hb := B.bytes
  have hr := B.returns
  have hts := atoms_spec (ws := wsX7_gives) B.pre
  have hown : s.vm.findClass RX7 = some m.cls := findClass_of_methodNamed B.named
  have hlocks := B.notSynchronized
  subst hsz
  have hD := hD0.self (sz := s.heap.size)
  generalize hAe : va_A (W_X7_gives cyI cyJ cyO n_p1 n_p3 a_p1 a_p3 p1_arr p3_arr) s.heap.size = A at hD hZ ⊢
  have hA : ∀ q : Nat, s.heap.size ≤ q → A q := fun q h => by rw [← hAe]; exact Or.inr h
  clear hAe hD0
  have hS : va_S A s.heap s.heap [] := va_S.rf
  have hl := lv_entry ([.ref a_p1, .int x2, .ref a_p3]) (n := 4) (Nat.le_of_ble_eq_true rfl)
  rw [lg_entry_eq]
  generalize (lg_sl ([.ref a_p1, .int x2, .ref a_p3]) ++ List.replicate (4 - (lg_sl ([.ref a_p1, .int x2, .ref a_p3])).length) Slot.unset).toArray = ls at hl ⊢
  have hl : lv_has ls 4 [(0, .ref a_p1), (1, .int x2), (2, .ref a_p3)] := hl
  refine kW (fun Q hQ => ?_)
  have hw := hf
  have w2 : ∀ (n : Nat), ∀ (v1 : Int32) (v3 : Int32) (p3_arr : Nat → Int32) (H : Heap) (locs : List Loc), va_P (dC, dI) vwCl (W_X7_gives cyI cyJ cyO n_p1 n_p3 a_p1 a_p3 p1_arr p3_arr) H → va_D A (W_X7_gives cyI cyJ cyO n_p1 n_p3 a_p1 a_p3 p1_arr p3_arr) → va_S A s.heap H locs → ∀ (ls : Array Slot), lv_has ls 4 [(0, .ref a_p1), (1, .int v1), (2, .ref a_p3), (3, .int v3)] → okP (f_X7_gives_L2 n_p1 n_p3 n v1 v3 p1_arr p3_arr) post → W p l e (headSpec wsX7_gives rm_X7_gives).room s m ([.ref a_p1, .int x2, .ref a_p3] : List Value).toArray below meth c H locs 0 0 Q (F0 m 2 ls []) := by
    intro n
    induction n with
    | zero =>
      intro v1 v3 p3_arr H locs hP hD hS ls hl hw
      exact (ok0 hw).elim
    | succ n2 ih2 =>
      intro v1 v3 p3_arr H locs hP hD hS ls hl hw
      replace hw : okP (f_X7_gives_L2b n_p1 n_p3 (f_X7_gives_L2 n_p1 n_p3 n2) v1 v3 p1_arr p3_arr) post := hw
      unfold f_X7_gives_L2b at hw
      refine lv_iload_n hx hb dX7_gives_2 rfl (lv_at hl 3 rfl) ?_
      refine lv_aload_n hx hb dX7_gives_3 rfl (lv_at hl 2 rfl) ?_
      refine va_alen (v := Int32.ofNat n_p3) hx hb hK hP 1 0 rfl rfl rfl dX7_gives_4 ?_
      refine lv_icmp_ge (tgt := 22) hx hb dX7_gives_5 (by decide) (fun c_1 => ?_) (fun c_1 => ?_)
      · replace hw := okT hw c_1
        clear c_1
        refine lv_iload_n hx hb dX7_gives_22 rfl (lv_at hl 1 rfl) ?_
        refine lv_aload_n hx hb dX7_gives_23 rfl (lv_at hl 2 rfl) ?_
        refine va_alen (v := Int32.ofNat n_p3) hx hb hK hP 1 0 rfl rfl rfl dX7_gives_24 ?_
        refine lv_iadd hx hb dX7_gives_25 ?_
        rw [hQ]
        exact W.iret (v := v1 + (Int32.ofNat n_p3)) hx hb hr (fun t ht hW => ⟨⟨v1 + (Int32.ofNat n_p3), p3_arr, rfl, okS hw, by rw [ht]; exact hP, va_K.moved hW.alike hK, hD⟩, hS.F ht⟩) hS.2.2 dX7_gives_26
      · replace hw := okF hw c_1
        clear c_1
        refine lv_aload_n hx hb dX7_gives_8 rfl (lv_at hl 2 rfl) ?_
        refine lv_iload_n hx hb dX7_gives_9 rfl (lv_at hl 3 rfl) ?_
        refine lv_aload_n hx hb dX7_gives_10 rfl (lv_at hl 0 rfl) ?_
        refine lv_iload_n hx hb dX7_gives_11 rfl (lv_at hl 1 rfl) ?_
        refine lv_iload_n hx hb dX7_gives_12 rfl (lv_at hl 3 rfl) ?_
        refine lv_iadd hx hb dX7_gives_13 ?_
        obtain ⟨h_2, hw⟩ := okC hw
        refine va_iald (i := v1 + v3) hx hb hK hP 0 0 rfl rfl h_2 dX7_gives_14 ?_
        refine lv_topi (fun x_3 ex_3 => ?_)
        replace hw := okN ex_3 hw
        clear ex_3
        obtain ⟨h_4, hw⟩ := okC hw
        refine va_iast (i := v3) (x := x_3) hx hb hK hP hD hS 1 0 rfl rfl h_4 dX7_gives_15 (fun H locs hP hD hS => ?_)
        have hP : va_P (dC, dI) vwCl (W_X7_gives cyI cyJ cyO n_p1 n_p3 a_p1 a_p3 p1_arr (upd p3_arr v3.toNatClampNeg x_3)) H := hP
        have hD : va_D A (W_X7_gives cyI cyJ cyO n_p1 n_p3 a_p1 a_p3 p1_arr (upd p3_arr v3.toNatClampNeg x_3)) := hD
        obtain ⟨x_5, ex_5⟩ : ∃ y : Int32, y = v3 + 1 := ⟨_, rfl⟩
        replace hw := okN ex_5 hw
        refine lv_iinc (v := x_5) (lv' := [(3, .int x_5), (0, .ref a_p1), (1, .int v1), (2, .ref a_p3)]) hx hb dX7_gives_16 hl (k := 3) rfl (by rw [ex_5]; rfl) (by decide) rfl (fun ls hl => ?_)
        clear ex_5
        refine lv_goto (tgt := 2) hx hb dX7_gives_19 (by decide) ?_
        exact ih2 v1 x_5 (upd p3_arr v3.toNatClampNeg x_3) _ _ hP hD hS _ (lv_sub hl [1, 2, 3, 0] rfl) hw
  unfold f_X7_gives at hw
  have hP : va_P (dC, dI) vwCl (W_X7_gives cyI cyJ cyO n_p1 n_p3 a_p1 a_p3 p1_arr p3_arr) s.heap := hP
  obtain ⟨H, hH⟩ : ∃ H, H = s.heap := ⟨_, rfl⟩
  obtain ⟨locs, hlo⟩ : ∃ x : List Loc, x = [] := ⟨_, rfl⟩
  have hP : va_P (dC, dI) vwCl (W_X7_gives cyI cyJ cyO n_p1 n_p3 a_p1 a_p3 p1_arr p3_arr) H := by rw [hH]; exact hP
  have hS : va_S A s.heap H locs := by rw [hH, hlo]; exact hS
  refine kH hH hlo ?_
  clear hH hlo
  refine lv_iconst (v := 0) hx hb dX7_gives_0 (by decide) ?_
  refine lv_istore_n (lv' := [(3, .int 0), (0, .ref a_p1), (1, .int x2), (2, .ref a_p3)]) hx hb dX7_gives_1 rfl hl (by decide) rfl (fun ls hl => ?_)
  exact w2 FU x2 0 p3_arr _ _ hP hD hS _ (lv_sub hl [1, 2, 3, 0] rfl) hw
/-! ===== X7_image ===== -/
theorem dX7_image_0 : decode cX7_image 0 = .ok (.aload_n 0, 1) := by decide +kernel
theorem dX7_image_1 : decode cX7_image 1 = .ok (.getfield 7, 3) := by decide +kernel
theorem dX7_image_4 : decode cX7_image 4 = .ok (.aload_n 0, 1) := by decide +kernel
theorem dX7_image_5 : decode cX7_image 5 = .ok (.getfield 83, 3) := by decide +kernel
theorem dX7_image_8 : decode cX7_image 8 = .ok (.iconst 0, 1) := by decide +kernel
theorem dX7_image_9 : decode cX7_image 9 = .ok (.invokestatic 272, 3) := by decide +kernel
theorem dX7_image_12 : decode cX7_image 12 = .ok (.istore_n 1, 1) := by decide +kernel
theorem dX7_image_13 : decode cX7_image 13 = .ok (.aload_n 0, 1) := by decide +kernel
theorem dX7_image_14 : decode cX7_image 14 = .ok (.getfield 13, 3) := by decide +kernel
theorem dX7_image_17 : decode cX7_image 17 = .ok (.aload_n 0, 1) := by decide +kernel
theorem dX7_image_18 : decode cX7_image 18 = .ok (.getfield 83, 3) := by decide +kernel
theorem dX7_image_21 : decode cX7_image 21 = .ok (.iload_n 1, 1) := by decide +kernel
theorem dX7_image_22 : decode cX7_image 22 = .ok (.invokestatic 272, 3) := by decide +kernel
theorem dX7_image_25 : decode cX7_image 25 = .ok (.istore_n 1, 1) := by decide +kernel
theorem dX7_image_26 : decode cX7_image 26 = .ok (.aload_n 0, 1) := by decide +kernel
theorem dX7_image_27 : decode cX7_image 27 = .ok (.getfield 16, 3) := by decide +kernel
theorem dX7_image_30 : decode cX7_image 30 = .ok (.aload_n 0, 1) := by decide +kernel
theorem dX7_image_31 : decode cX7_image 31 = .ok (.getfield 83, 3) := by decide +kernel
theorem dX7_image_34 : decode cX7_image 34 = .ok (.iload_n 1, 1) := by decide +kernel
theorem dX7_image_35 : decode cX7_image 35 = .ok (.invokestatic 272, 3) := by decide +kernel
theorem dX7_image_38 : decode cX7_image 38 = .ok (.istore_n 1, 1) := by decide +kernel
theorem dX7_image_39 : decode cX7_image 39 = .ok (.aload_n 0, 1) := by decide +kernel
theorem dX7_image_40 : decode cX7_image 40 = .ok (.getfield 19, 3) := by decide +kernel
theorem dX7_image_43 : decode cX7_image 43 = .ok (.aload_n 0, 1) := by decide +kernel
theorem dX7_image_44 : decode cX7_image 44 = .ok (.getfield 83, 3) := by decide +kernel
theorem dX7_image_47 : decode cX7_image 47 = .ok (.iload_n 1, 1) := by decide +kernel
theorem dX7_image_48 : decode cX7_image 48 = .ok (.invokestatic 272, 3) := by decide +kernel
theorem dX7_image_51 : decode cX7_image 51 = .ok (.istore_n 1, 1) := by decide +kernel
theorem dX7_image_52 : decode cX7_image 52 = .ok (.aload_n 0, 1) := by decide +kernel
theorem dX7_image_53 : decode cX7_image 53 = .ok (.getfield 22, 3) := by decide +kernel
theorem dX7_image_56 : decode cX7_image 56 = .ok (.aload_n 0, 1) := by decide +kernel
theorem dX7_image_57 : decode cX7_image 57 = .ok (.getfield 83, 3) := by decide +kernel
theorem dX7_image_60 : decode cX7_image 60 = .ok (.iload_n 1, 1) := by decide +kernel
theorem dX7_image_61 : decode cX7_image 61 = .ok (.invokestatic 272, 3) := by decide +kernel
theorem dX7_image_64 : decode cX7_image 64 = .ok (.istore_n 1, 1) := by decide +kernel
theorem dX7_image_65 : decode cX7_image 65 = .ok (.aload_n 0, 1) := by decide +kernel
theorem dX7_image_66 : decode cX7_image 66 = .ok (.getfield 25, 3) := by decide +kernel
theorem dX7_image_69 : decode cX7_image 69 = .ok (.aload_n 0, 1) := by decide +kernel
theorem dX7_image_70 : decode cX7_image 70 = .ok (.getfield 83, 3) := by decide +kernel
theorem dX7_image_73 : decode cX7_image 73 = .ok (.iload_n 1, 1) := by decide +kernel
theorem dX7_image_74 : decode cX7_image 74 = .ok (.invokestatic 272, 3) := by decide +kernel
theorem dX7_image_77 : decode cX7_image 77 = .ok (.istore_n 1, 1) := by decide +kernel
theorem dX7_image_78 : decode cX7_image 78 = .ok (.aload_n 0, 1) := by decide +kernel
theorem dX7_image_79 : decode cX7_image 79 = .ok (.getfield 64, 3) := by decide +kernel
theorem dX7_image_82 : decode cX7_image 82 = .ok (.aload_n 0, 1) := by decide +kernel
theorem dX7_image_83 : decode cX7_image 83 = .ok (.getfield 83, 3) := by decide +kernel
theorem dX7_image_86 : decode cX7_image 86 = .ok (.iload_n 1, 1) := by decide +kernel
theorem dX7_image_87 : decode cX7_image 87 = .ok (.invokestatic 272, 3) := by decide +kernel
theorem dX7_image_90 : decode cX7_image 90 = .ok (.istore_n 1, 1) := by decide +kernel
theorem dX7_image_91 : decode cX7_image 91 = .ok (.aload_n 0, 1) := by decide +kernel
theorem dX7_image_92 : decode cX7_image 92 = .ok (.getfield 67, 3) := by decide +kernel
theorem dX7_image_95 : decode cX7_image 95 = .ok (.aload_n 0, 1) := by decide +kernel
theorem dX7_image_96 : decode cX7_image 96 = .ok (.getfield 83, 3) := by decide +kernel
theorem dX7_image_99 : decode cX7_image 99 = .ok (.iload_n 1, 1) := by decide +kernel
theorem dX7_image_100 : decode cX7_image 100 = .ok (.invokestatic 272, 3) := by decide +kernel
theorem dX7_image_103 : decode cX7_image 103 = .ok (.istore_n 1, 1) := by decide +kernel
theorem dX7_image_104 : decode cX7_image 104 = .ok (.aload_n 0, 1) := by decide +kernel
theorem dX7_image_105 : decode cX7_image 105 = .ok (.getfield 70, 3) := by decide +kernel
theorem dX7_image_108 : decode cX7_image 108 = .ok (.aload_n 0, 1) := by decide +kernel
theorem dX7_image_109 : decode cX7_image 109 = .ok (.getfield 83, 3) := by decide +kernel
theorem dX7_image_112 : decode cX7_image 112 = .ok (.iload_n 1, 1) := by decide +kernel
theorem dX7_image_113 : decode cX7_image 113 = .ok (.invokestatic 272, 3) := by decide +kernel
theorem dX7_image_116 : decode cX7_image 116 = .ok (.istore_n 1, 1) := by decide +kernel
theorem dX7_image_117 : decode cX7_image 117 = .ok (.aload_n 0, 1) := by decide +kernel
theorem dX7_image_118 : decode cX7_image 118 = .ok (.getfield 83, 3) := by decide +kernel
theorem dX7_image_121 : decode cX7_image 121 = .ok (.iload_n 1, 1) := by decide +kernel
theorem dX7_image_122 : decode cX7_image 122 = .ok (.aload_n 0, 1) := by decide +kernel
theorem dX7_image_123 : decode cX7_image 123 = .ok (.getfield 206, 3) := by decide +kernel
theorem dX7_image_126 : decode cX7_image 126 = .ok (.iastore, 1) := by decide +kernel
theorem dX7_image_127 : decode cX7_image 127 = .ok (.aload_n 0, 1) := by decide +kernel
theorem dX7_image_128 : decode cX7_image 128 = .ok (.getfield 83, 3) := by decide +kernel
theorem dX7_image_131 : decode cX7_image 131 = .ok (.iload_n 1, 1) := by decide +kernel
theorem dX7_image_132 : decode cX7_image 132 = .ok (.iconst 1, 1) := by decide +kernel
theorem dX7_image_133 : decode cX7_image 133 = .ok (.iadd, 1) := by decide +kernel
theorem dX7_image_134 : decode cX7_image 134 = .ok (.aload_n 0, 1) := by decide +kernel
theorem dX7_image_135 : decode cX7_image 135 = .ok (.getfield 218, 3) := by decide +kernel
theorem dX7_image_138 : decode cX7_image 138 = .ok (.iastore, 1) := by decide +kernel
theorem dX7_image_139 : decode cX7_image 139 = .ok (.aload_n 0, 1) := by decide +kernel
theorem dX7_image_140 : decode cX7_image 140 = .ok (.iconst 1, 1) := by decide +kernel
theorem dX7_image_141 : decode cX7_image 141 = .ok (.putfield 276, 3) := by decide +kernel
theorem dX7_image_144 : decode cX7_image 144 = .ok (.iconst 1, 1) := by decide +kernel
theorem dX7_image_145 : decode cX7_image 145 = .ok (.ireturn, 1) := by decide +kernel
abbrev W_X7_image (cyI cyJ cyO : ClassId) (h_o a_o_sets a_o_ringFar a_o_ringTone a_o_currents a_o_warmths a_o_depths a_o_tape a_o_readFar a_o_readTone a_o_readSea a_o_code a_o_cellAt a_o_courseAt a_o_paceAt a_o_turnsAt a_o_slowAt a_o_fuelAt a_o_ringAt a_o_pieceParts a_o_dragCell a_o_dragBy a_o_sums a_o_shares a_o_keptFar a_o_image a_o_lanes a_o_sizes a_o_items a_o_movedItems : Nat) (o_taped : Int32) (o_at : Int32) (o_wrong : Int32) (o_level : Int32) (o_noRings : Int32) (o_noTones : Int32) (o_noFuel : Int32) (o_pieces : Int32) (o_drags : Int32) (o_all : Int64) (o_noPieces : Int32) (o_noDrags : Int32) (o_kept : Int32) (o_sets : Nat → Int32) (o_ringFar : Nat → Int32) (o_ringTone : Nat → Int32) (o_currents : Nat → Int32) (o_warmths : Nat → Int32) (o_depths : Nat → Int32) (o_pieceParts : Nat → Int32) (o_dragCell : Nat → Int32) (o_dragBy : Nat → Int32) (o_image : Nat → Int32) : va_W := [(h_o, .inr (7, [.ref a_o_sets, .ref a_o_ringFar, .ref a_o_ringTone, .ref a_o_currents, .ref a_o_warmths, .ref a_o_depths, .ref a_o_tape, .int o_taped, .int o_at, .int o_wrong, .ref a_o_readFar, .ref a_o_readTone, .ref a_o_readSea, .ref a_o_code, .ref a_o_cellAt, .ref a_o_courseAt, .ref a_o_paceAt, .ref a_o_turnsAt, .ref a_o_slowAt, .ref a_o_fuelAt, .ref a_o_ringAt, .int o_level, .int o_noRings, .int o_noTones, .int o_noFuel, .int o_pieces, .ref a_o_pieceParts, .int o_drags, .ref a_o_dragCell, .ref a_o_dragBy, .ref a_o_sums, .long o_all, .int o_noPieces, .int o_noDrags, .ref a_o_shares, .ref a_o_keptFar, .ref a_o_image, .int o_kept, .ref a_o_lanes, .ref a_o_sizes, .ref a_o_items, .ref a_o_movedItems])), (a_o_sets, .inl (cyI, 8, .inl o_sets)), (a_o_ringFar, .inl (cyI, 7, .inl o_ringFar)), (a_o_ringTone, .inl (cyI, 7, .inl o_ringTone)), (a_o_currents, .inl (cyI, 200, .inl o_currents)), (a_o_warmths, .inl (cyI, 200, .inl o_warmths)), (a_o_depths, .inl (cyI, 100, .inl o_depths)), (a_o_pieceParts, .inl (cyI, 20, .inl o_pieceParts)), (a_o_dragCell, .inl (cyI, 6, .inl o_dragCell)), (a_o_dragBy, .inl (cyI, 6, .inl o_dragBy)), (a_o_image, .inl (cyI, 570, .inl o_image))]
def f_X7_image (o_pieces : Int32) (o_drags : Int32) (o_kept : Int32) (o_sets : Nat → Int32) (o_ringFar : Nat → Int32) (o_ringTone : Nat → Int32) (o_currents : Nat → Int32) (o_warmths : Nat → Int32) (o_depths : Nat → Int32) (o_pieceParts : Nat → Int32) (o_dragCell : Nat → Int32) (o_dragBy : Nat → Int32) (o_image : Nat → Int32) : Option (Int32 × Int32 × (Nat → Int32)) :=
  bd2 (f_X7_saves 8 570 0 o_sets o_image) fun r_1 w_2 =>
  bd2 (f_X7_saves 7 570 r_1 o_ringFar w_2) fun r_3 w_4 =>
  bd2 (f_X7_saves 7 570 r_3 o_ringTone w_4) fun r_5 w_6 =>
  bd2 (f_X7_saves 200 570 r_5 o_currents w_6) fun r_7 w_8 =>
  bd2 (f_X7_saves 200 570 r_7 o_warmths w_8) fun r_9 w_10 =>
  bd2 (f_X7_saves 100 570 r_9 o_depths w_10) fun r_11 w_12 =>
  bd2 (f_X7_saves 20 570 r_11 o_pieceParts w_12) fun r_13 w_14 =>
  bd2 (f_X7_saves 6 570 r_13 o_dragCell w_14) fun r_15 w_16 =>
  bd2 (f_X7_saves 6 570 r_15 o_dragBy w_16) fun r_17 w_18 =>
  chk (¬ (r_17 < 0 ∨ 570 ≤ r_17.toNatClampNeg)) <|
  chk (¬ (r_17 + 1 < 0 ∨ 570 ≤ (r_17 + 1).toNatClampNeg)) <|
  some (1, 1, upd (upd w_18 r_17.toNatClampNeg o_pieces) (r_17 + 1).toNatClampNeg o_drags)
abbrev rm_X7_image : Room := { frames := 1, cells := 0, slots := 0, locals := 23 }
set_option maxRecDepth 100000 in
set_option maxHeartbeats 4000000 in
theorem c_X7_image (l : Launch) (dC : Nat → ClassId) (dI : Nat → Nat → Nat) (cyI cyJ cyO : ClassId) (sz : Nat) (h_o a_o_sets a_o_ringFar a_o_ringTone a_o_currents a_o_warmths a_o_depths a_o_tape a_o_readFar a_o_readTone a_o_readSea a_o_code a_o_cellAt a_o_courseAt a_o_paceAt a_o_turnsAt a_o_slowAt a_o_fuelAt a_o_ringAt a_o_pieceParts a_o_dragCell a_o_dragBy a_o_sums a_o_shares a_o_keptFar a_o_image a_o_lanes a_o_sizes a_o_items a_o_movedItems : Nat) (o_taped : Int32) (o_at : Int32) (o_wrong : Int32) (o_level : Int32) (o_noRings : Int32) (o_noTones : Int32) (o_noFuel : Int32) (o_pieces : Int32) (o_drags : Int32) (o_all : Int64) (o_noPieces : Int32) (o_noDrags : Int32) (o_kept : Int32) (o_sets : Nat → Int32) (o_ringFar : Nat → Int32) (o_ringTone : Nat → Int32) (o_currents : Nat → Int32) (o_warmths : Nat → Int32) (o_depths : Nat → Int32) (o_pieceParts : Nat → Int32) (o_dragCell : Nat → Int32) (o_dragBy : Nat → Int32) (o_image : Nat → Int32) (post : (Int32 × Int32 × (Nat → Int32)) → Prop) (hf : okP (f_X7_image o_pieces o_drags o_kept o_sets o_ringFar o_ringTone o_currents o_warmths o_depths o_pieceParts o_dragCell o_dragBy o_image) post) : Ci l (dC, dI) (tyL cyI cyJ cyO) yX7_image wsX7_image rm_X7_image [.ref h_o] sz (W_X7_image cyI cyJ cyO h_o a_o_sets a_o_ringFar a_o_ringTone a_o_currents a_o_warmths a_o_depths a_o_tape a_o_readFar a_o_readTone a_o_readSea a_o_code a_o_cellAt a_o_courseAt a_o_paceAt a_o_turnsAt a_o_slowAt a_o_fuelAt a_o_ringAt a_o_pieceParts a_o_dragCell a_o_dragBy a_o_sums a_o_shares a_o_keptFar a_o_image a_o_lanes a_o_sizes a_o_items a_o_movedItems o_taped o_at o_wrong o_level o_noRings o_noTones o_noFuel o_pieces o_drags o_all o_noPieces o_noDrags o_kept o_sets o_ringFar o_ringTone o_currents o_warmths o_depths o_pieceParts o_dragCell o_dragBy o_image) zN (fun r u => post (r, u)) (fun u => (W_X7_image cyI cyJ cyO h_o a_o_sets a_o_ringFar a_o_ringTone a_o_currents a_o_warmths a_o_depths a_o_tape a_o_readFar a_o_readTone a_o_readSea a_o_code a_o_cellAt a_o_courseAt a_o_paceAt a_o_turnsAt a_o_slowAt a_o_fuelAt a_o_ringAt a_o_pieceParts a_o_dragCell a_o_dragBy a_o_sums a_o_shares a_o_keptFar a_o_image a_o_lanes a_o_sizes a_o_items a_o_movedItems o_taped o_at o_wrong o_level o_noRings o_noTones o_noFuel o_pieces o_drags o_all o_noPieces o_noDrags u.1 o_sets o_ringFar o_ringTone o_currents o_warmths o_depths o_pieceParts o_dragCell o_dragBy u.2)) := by
  refine Met.ofW (cc := cX7_image) (maxL := 2) (ret := (some .int)) (by decide) rfl ?_
  intro p e s m args below meth c s₁ B hml hv
  obtain ⟨rfl, hsz, hP, hK, hD0, hZ⟩ := hv
  have hx := B.exec
  have hb := B.bytes
  have hr := B.returns
  have hts := atoms_spec (ws := wsX7_image) B.pre
  have hown : s.vm.findClass RX7 = some m.cls := findClass_of_methodNamed B.named
  have hlocks := B.notSynchronized
  subst hsz
  have hD := hD0.self (sz := s.heap.size)
  generalize hAe : va_A (W_X7_image cyI cyJ cyO h_o a_o_sets a_o_ringFar a_o_ringTone a_o_currents a_o_warmths a_o_depths a_o_tape a_o_readFar a_o_readTone a_o_readSea a_o_code a_o_cellAt a_o_courseAt a_o_paceAt a_o_turnsAt a_o_slowAt a_o_fuelAt a_o_ringAt a_o_pieceParts a_o_dragCell a_o_dragBy a_o_sums a_o_shares a_o_keptFar a_o_image a_o_lanes a_o_sizes a_o_items a_o_movedItems o_taped o_at o_wrong o_level o_noRings o_noTones o_noFuel o_pieces o_drags o_all o_noPieces o_noDrags o_kept o_sets o_ringFar o_ringTone o_currents o_warmths o_depths o_pieceParts o_dragCell o_dragBy o_image) s.heap.size = A at hD hZ ⊢
  have hA : ∀ q : Nat, s.heap.size ≤ q → A q := fun q h => by rw [← hAe]; exact Or.inr h
  clear hAe hD0
  have hS : va_S A s.heap s.heap [] := va_S.rf
  have hl := lv_entry ([.ref h_o]) (n := 2) (Nat.le_of_ble_eq_true rfl)
  rw [lg_entry_eq]
  generalize (lg_sl ([.ref h_o]) ++ List.replicate (2 - (lg_sl ([.ref h_o])).length) Slot.unset).toArray = ls at hl ⊢
  have hl : lv_has ls 2 [(0, .ref h_o)] := hl
  refine kW (fun Q hQ => ?_)
  have hq0 := hts _ (List.mem_cons_of_mem _ q_706)
  have hi7 : ∀ w ∈ u_ws RX7 TX7 42, w ∈ wsX7_image := fun w h => List.mem_cons_of_mem _ (inX7 w h)
  have hq2 := hts _ (List.mem_cons_of_mem _ q_742)
  have hq3 := hts _ (List.mem_cons_of_mem _ q_707)
  have hq4 := hts _ (List.mem_cons_of_mem _ q_708)
  have hq5 := hts _ (List.mem_cons_of_mem _ q_709)
  have hq6 := hts _ (List.mem_cons_of_mem _ q_710)
  have hq7 := hts _ (List.mem_cons_of_mem _ q_711)
  have hq8 := hts _ (List.mem_cons_of_mem _ q_732)
  have hq9 := hts _ (List.mem_cons_of_mem _ q_734)
  have hq10 := hts _ (List.mem_cons_of_mem _ q_735)
  have hq11 := hts _ (List.mem_cons_of_mem _ q_731)
  have hq12 := hts _ (List.mem_cons_of_mem _ q_733)
  have hq13 := hts _ (List.mem_cons_of_mem _ q_743)
  have hw := hf
  unfold f_X7_image at hw
  have hP : va_P (dC, dI) vwCl (W_X7_image cyI cyJ cyO h_o a_o_sets a_o_ringFar a_o_ringTone a_o_currents a_o_warmths a_o_depths a_o_tape a_o_readFar a_o_readTone a_o_readSea a_o_code a_o_cellAt a_o_courseAt a_o_paceAt a_o_turnsAt a_o_slowAt a_o_fuelAt a_o_ringAt a_o_pieceParts a_o_dragCell a_o_dragBy a_o_sums a_o_shares a_o_keptFar a_o_image a_o_lanes a_o_sizes a_o_items a_o_movedItems o_taped o_at o_wrong o_level o_noRings o_noTones o_noFuel o_pieces o_drags o_all o_noPieces o_noDrags o_kept o_sets o_ringFar o_ringTone o_currents o_warmths o_depths o_pieceParts o_dragCell o_dragBy o_image) s.heap := hP
  obtain ⟨H, hH⟩ : ∃ H, H = s.heap := ⟨_, rfl⟩
  obtain ⟨locs, hlo⟩ : ∃ x : List Loc, x = [] := ⟨_, rfl⟩
  have hP : va_P (dC, dI) vwCl (W_X7_image cyI cyJ cyO h_o a_o_sets a_o_ringFar a_o_ringTone a_o_currents a_o_warmths a_o_depths a_o_tape a_o_readFar a_o_readTone a_o_readSea a_o_code a_o_cellAt a_o_courseAt a_o_paceAt a_o_turnsAt a_o_slowAt a_o_fuelAt a_o_ringAt a_o_pieceParts a_o_dragCell a_o_dragBy a_o_sums a_o_shares a_o_keptFar a_o_image a_o_lanes a_o_sizes a_o_items a_o_movedItems o_taped o_at o_wrong o_level o_noRings o_noTones o_noFuel o_pieces o_drags o_all o_noPieces o_noDrags o_kept o_sets o_ringFar o_ringTone o_currents o_warmths o_depths o_pieceParts o_dragCell o_dragBy o_image) H := by rw [hH]; exact hP
  have hS : va_S A s.heap H locs := by rw [hH, hlo]; exact hS
  refine kH hH hlo ?_
  clear hH hlo
  refine lv_aload_n hx hb dX7_image_0 rfl (lv_at hl 0 rfl) ?_
  refine va_get (D := (dC, dI)) (ci := 7) (v := .ref a_o_sets) (C := RX7) (T := TX7) (N := 42) hx hb hts hi7 hown hK hP 0 rfl rfl 0 (by decide) hq0 (fun _ h9 => h9) rfl dX7_image_1 ?_
  refine lv_aload_n hx hb dX7_image_4 rfl (lv_at hl 0 rfl) ?_
  refine va_get (D := (dC, dI)) (ci := 7) (v := .ref a_o_image) (C := RX7) (T := TX7) (N := 42) hx hb hts hi7 hown hK hP 0 rfl rfl 36 (by decide) hq2 (fun _ h9 => h9) rfl dX7_image_5 ?_
  refine lv_iconst (v := 0) hx hb dX7_image_8 (by decide) ?_
  have hPc := hP.sub (ws' := (W_X7_saves cyI cyJ cyO 8 570 a_o_sets a_o_image o_sets o_image)) [1, 10] rfl
  have hDc := hD.sub (ws' := (W_X7_saves cyI cyJ cyO 8 570 a_o_sets a_o_image o_sets o_image)) [1, 10] (by decide +kernel) rfl
  have hFc := va_free (wc := (W_X7_saves cyI cyJ cyO 8 570 a_o_sets a_o_image o_sets o_image)) hD hS hA [1, 10] rfl
  refine kc_i (wr := [(h_o, .inr (7, [.ref a_o_sets, .ref a_o_ringFar, .ref a_o_ringTone, .ref a_o_currents, .ref a_o_warmths, .ref a_o_depths, .ref a_o_tape, .int o_taped, .int o_at, .int o_wrong, .ref a_o_readFar, .ref a_o_readTone, .ref a_o_readSea, .ref a_o_code, .ref a_o_cellAt, .ref a_o_courseAt, .ref a_o_paceAt, .ref a_o_turnsAt, .ref a_o_slowAt, .ref a_o_fuelAt, .ref a_o_ringAt, .int o_level, .int o_noRings, .int o_noTones, .int o_noFuel, .int o_pieces, .ref a_o_pieceParts, .int o_drags, .ref a_o_dragCell, .ref a_o_dragBy, .ref a_o_sums, .long o_all, .int o_noPieces, .int o_noDrags, .ref a_o_shares, .ref a_o_keptFar, .ref a_o_image, .int o_kept, .ref a_o_lanes, .ref a_o_sizes, .ref a_o_items, .ref a_o_movedItems])), (a_o_ringFar, .inl (cyI, 7, .inl o_ringFar)), (a_o_ringTone, .inl (cyI, 7, .inl o_ringTone)), (a_o_currents, .inl (cyI, 200, .inl o_currents)), (a_o_warmths, .inl (cyI, 200, .inl o_warmths)), (a_o_depths, .inl (cyI, 100, .inl o_depths)), (a_o_pieceParts, .inl (cyI, 20, .inl o_pieceParts)), (a_o_dragCell, .inl (cyI, 6, .inl o_dragCell)), (a_o_dragBy, .inl (cyI, 6, .inl o_dragBy))]) (va_runS (As := [.ref a_o_sets, .ref a_o_image, .int 0]) (rest := []) ⟨hx, hb, hml, hown, hts⟩ (c_X7_saves l dC dI cyI cyJ cyO H.size 8 570 a_o_sets a_o_image o_sets o_image 0 _ (okb2 hw)) (va_cwS 3 hts (gdS (fun w h => List.mem_cons_of_mem _ h) q_1065 q_1066 q_8 q_1067) rfl rfl rfl (by decide +kernel) ⟨Nat.le_of_ble_eq_true rfl, Nat.le_of_ble_eq_true rfl⟩) (kpre zN_ok hK hPc hDc trivial hS hFc) rfl rfl hl.1 rfl (lv_room (Nat.le_of_ble_eq_true rfl)) dX7_image_9 ⟨Nat.le_of_ble_eq_true rfl, Nat.le_of_ble_eq_true rfl⟩) hP hD hS hFc [1, 10] [0, 2, 3, 4, 5, 6, 7, 8, 9] rfl rfl (by decide +kernel) (by decide +kernel) (fun r_1 w_2 H locs hw hP hD hS => ?_)
  try dsimp only at hw
  have hP : va_P (dC, dI) vwCl (W_X7_image cyI cyJ cyO h_o a_o_sets a_o_ringFar a_o_ringTone a_o_currents a_o_warmths a_o_depths a_o_tape a_o_readFar a_o_readTone a_o_readSea a_o_code a_o_cellAt a_o_courseAt a_o_paceAt a_o_turnsAt a_o_slowAt a_o_fuelAt a_o_ringAt a_o_pieceParts a_o_dragCell a_o_dragBy a_o_sums a_o_shares a_o_keptFar a_o_image a_o_lanes a_o_sizes a_o_items a_o_movedItems o_taped o_at o_wrong o_level o_noRings o_noTones o_noFuel o_pieces o_drags o_all o_noPieces o_noDrags o_kept o_sets o_ringFar o_ringTone o_currents o_warmths o_depths o_pieceParts o_dragCell o_dragBy w_2) H := hP.sub [0, 9, 1, 2, 3, 4, 5, 6, 7, 8, 10] rfl
  have hD : va_D A (W_X7_image cyI cyJ cyO h_o a_o_sets a_o_ringFar a_o_ringTone a_o_currents a_o_warmths a_o_depths a_o_tape a_o_readFar a_o_readTone a_o_readSea a_o_code a_o_cellAt a_o_courseAt a_o_paceAt a_o_turnsAt a_o_slowAt a_o_fuelAt a_o_ringAt a_o_pieceParts a_o_dragCell a_o_dragBy a_o_sums a_o_shares a_o_keptFar a_o_image a_o_lanes a_o_sizes a_o_items a_o_movedItems o_taped o_at o_wrong o_level o_noRings o_noTones o_noFuel o_pieces o_drags o_all o_noPieces o_noDrags o_kept o_sets o_ringFar o_ringTone o_currents o_warmths o_depths o_pieceParts o_dragCell o_dragBy w_2) := hD.sub [0, 9, 1, 2, 3, 4, 5, 6, 7, 8, 10] (by decide +kernel) rfl
  clear hPc hDc hFc
  refine lv_istore_n (lv' := [(1, .int r_1), (0, .ref h_o)]) hx hb dX7_image_12 rfl hl (by decide) rfl (fun ls hl => ?_)
  refine lv_aload_n hx hb dX7_image_13 rfl (lv_at hl 1 rfl) ?_
  refine va_get (D := (dC, dI)) (ci := 7) (v := .ref a_o_ringFar) (C := RX7) (T := TX7) (N := 42) hx hb hts hi7 hown hK hP 0 rfl rfl 1 (by decide) hq3 (fun _ h9 => h9) rfl dX7_image_14 ?_
  refine lv_aload_n hx hb dX7_image_17 rfl (lv_at hl 1 rfl) ?_
  refine va_get (D := (dC, dI)) (ci := 7) (v := .ref a_o_image) (C := RX7) (T := TX7) (N := 42) hx hb hts hi7 hown hK hP 0 rfl rfl 36 (by decide) hq2 (fun _ h9 => h9) rfl dX7_image_18 ?_
  refine lv_iload_n hx hb dX7_image_21 rfl (lv_at hl 0 rfl) ?_
  have hPc := hP.sub (ws' := (W_X7_saves cyI cyJ cyO 7 570 a_o_ringFar a_o_image o_ringFar w_2)) [2, 10] rfl
  have hDc := hD.sub (ws' := (W_X7_saves cyI cyJ cyO 7 570 a_o_ringFar a_o_image o_ringFar w_2)) [2, 10] (by decide +kernel) rfl
  have hFc := va_free (wc := (W_X7_saves cyI cyJ cyO 7 570 a_o_ringFar a_o_image o_ringFar w_2)) hD hS hA [2, 10] rfl
  refine kc_i (wr := [(h_o, .inr (7, [.ref a_o_sets, .ref a_o_ringFar, .ref a_o_ringTone, .ref a_o_currents, .ref a_o_warmths, .ref a_o_depths, .ref a_o_tape, .int o_taped, .int o_at, .int o_wrong, .ref a_o_readFar, .ref a_o_readTone, .ref a_o_readSea, .ref a_o_code, .ref a_o_cellAt, .ref a_o_courseAt, .ref a_o_paceAt, .ref a_o_turnsAt, .ref a_o_slowAt, .ref a_o_fuelAt, .ref a_o_ringAt, .int o_level, .int o_noRings, .int o_noTones, .int o_noFuel, .int o_pieces, .ref a_o_pieceParts, .int o_drags, .ref a_o_dragCell, .ref a_o_dragBy, .ref a_o_sums, .long o_all, .int o_noPieces, .int o_noDrags, .ref a_o_shares, .ref a_o_keptFar, .ref a_o_image, .int o_kept, .ref a_o_lanes, .ref a_o_sizes, .ref a_o_items, .ref a_o_movedItems])), (a_o_sets, .inl (cyI, 8, .inl o_sets)), (a_o_ringTone, .inl (cyI, 7, .inl o_ringTone)), (a_o_currents, .inl (cyI, 200, .inl o_currents)), (a_o_warmths, .inl (cyI, 200, .inl o_warmths)), (a_o_depths, .inl (cyI, 100, .inl o_depths)), (a_o_pieceParts, .inl (cyI, 20, .inl o_pieceParts)), (a_o_dragCell, .inl (cyI, 6, .inl o_dragCell)), (a_o_dragBy, .inl (cyI, 6, .inl o_dragBy))]) (va_runS (As := [.ref a_o_ringFar, .ref a_o_image, .int r_1]) (rest := []) ⟨hx, hb, hml, hown, hts⟩ (c_X7_saves l dC dI cyI cyJ cyO H.size 7 570 a_o_ringFar a_o_image o_ringFar w_2 r_1 _ (okb2 hw)) (va_cwS 3 hts (gdS (fun w h => List.mem_cons_of_mem _ h) q_1065 q_1066 q_8 q_1067) rfl rfl rfl (by decide +kernel) ⟨Nat.le_of_ble_eq_true rfl, Nat.le_of_ble_eq_true rfl⟩) (kpre zN_ok hK hPc hDc trivial hS hFc) rfl rfl hl.1 rfl (lv_room (Nat.le_of_ble_eq_true rfl)) dX7_image_22 ⟨Nat.le_of_ble_eq_true rfl, Nat.le_of_ble_eq_true rfl⟩) hP hD hS hFc [2, 10] [0, 1, 3, 4, 5, 6, 7, 8, 9] rfl rfl (by decide +kernel) (by decide +kernel) (fun r_3 w_4 H locs hw hP hD hS => ?_)
  try dsimp only at hw
  have hP : va_P (dC, dI) vwCl (W_X7_image cyI cyJ cyO h_o a_o_sets a_o_ringFar a_o_ringTone a_o_currents a_o_warmths a_o_depths a_o_tape a_o_readFar a_o_readTone a_o_readSea a_o_code a_o_cellAt a_o_courseAt a_o_paceAt a_o_turnsAt a_o_slowAt a_o_fuelAt a_o_ringAt a_o_pieceParts a_o_dragCell a_o_dragBy a_o_sums a_o_shares a_o_keptFar a_o_image a_o_lanes a_o_sizes a_o_items a_o_movedItems o_taped o_at o_wrong o_level o_noRings o_noTones o_noFuel o_pieces o_drags o_all o_noPieces o_noDrags o_kept o_sets o_ringFar o_ringTone o_currents o_warmths o_depths o_pieceParts o_dragCell o_dragBy w_4) H := hP.sub [0, 1, 9, 2, 3, 4, 5, 6, 7, 8, 10] rfl
  have hD : va_D A (W_X7_image cyI cyJ cyO h_o a_o_sets a_o_ringFar a_o_ringTone a_o_currents a_o_warmths a_o_depths a_o_tape a_o_readFar a_o_readTone a_o_readSea a_o_code a_o_cellAt a_o_courseAt a_o_paceAt a_o_turnsAt a_o_slowAt a_o_fuelAt a_o_ringAt a_o_pieceParts a_o_dragCell a_o_dragBy a_o_sums a_o_shares a_o_keptFar a_o_image a_o_lanes a_o_sizes a_o_items a_o_movedItems o_taped o_at o_wrong o_level o_noRings o_noTones o_noFuel o_pieces o_drags o_all o_noPieces o_noDrags o_kept o_sets o_ringFar o_ringTone o_currents o_warmths o_depths o_pieceParts o_dragCell o_dragBy w_4) := hD.sub [0, 1, 9, 2, 3, 4, 5, 6, 7, 8, 10] (by decide +kernel) rfl
  clear hPc hDc hFc
  refine lv_istore_n (lv' := [(1, .int r_3), (0, .ref h_o)]) hx hb dX7_image_25 rfl hl (by decide) rfl (fun ls hl => ?_)
  refine lv_aload_n hx hb dX7_image_26 rfl (lv_at hl 1 rfl) ?_
  refine va_get (D := (dC, dI)) (ci := 7) (v := .ref a_o_ringTone) (C := RX7) (T := TX7) (N := 42) hx hb hts hi7 hown hK hP 0 rfl rfl 2 (by decide) hq4 (fun _ h9 => h9) rfl dX7_image_27 ?_
  refine lv_aload_n hx hb dX7_image_30 rfl (lv_at hl 1 rfl) ?_
  refine va_get (D := (dC, dI)) (ci := 7) (v := .ref a_o_image) (C := RX7) (T := TX7) (N := 42) hx hb hts hi7 hown hK hP 0 rfl rfl 36 (by decide) hq2 (fun _ h9 => h9) rfl dX7_image_31 ?_
  refine lv_iload_n hx hb dX7_image_34 rfl (lv_at hl 0 rfl) ?_
  have hPc := hP.sub (ws' := (W_X7_saves cyI cyJ cyO 7 570 a_o_ringTone a_o_image o_ringTone w_4)) [3, 10] rfl
  have hDc := hD.sub (ws' := (W_X7_saves cyI cyJ cyO 7 570 a_o_ringTone a_o_image o_ringTone w_4)) [3, 10] (by decide +kernel) rfl
  have hFc := va_free (wc := (W_X7_saves cyI cyJ cyO 7 570 a_o_ringTone a_o_image o_ringTone w_4)) hD hS hA [3, 10] rfl
  refine kc_i (wr := [(h_o, .inr (7, [.ref a_o_sets, .ref a_o_ringFar, .ref a_o_ringTone, .ref a_o_currents, .ref a_o_warmths, .ref a_o_depths, .ref a_o_tape, .int o_taped, .int o_at, .int o_wrong, .ref a_o_readFar, .ref a_o_readTone, .ref a_o_readSea, .ref a_o_code, .ref a_o_cellAt, .ref a_o_courseAt, .ref a_o_paceAt, .ref a_o_turnsAt, .ref a_o_slowAt, .ref a_o_fuelAt, .ref a_o_ringAt, .int o_level, .int o_noRings, .int o_noTones, .int o_noFuel, .int o_pieces, .ref a_o_pieceParts, .int o_drags, .ref a_o_dragCell, .ref a_o_dragBy, .ref a_o_sums, .long o_all, .int o_noPieces, .int o_noDrags, .ref a_o_shares, .ref a_o_keptFar, .ref a_o_image, .int o_kept, .ref a_o_lanes, .ref a_o_sizes, .ref a_o_items, .ref a_o_movedItems])), (a_o_sets, .inl (cyI, 8, .inl o_sets)), (a_o_ringFar, .inl (cyI, 7, .inl o_ringFar)), (a_o_currents, .inl (cyI, 200, .inl o_currents)), (a_o_warmths, .inl (cyI, 200, .inl o_warmths)), (a_o_depths, .inl (cyI, 100, .inl o_depths)), (a_o_pieceParts, .inl (cyI, 20, .inl o_pieceParts)), (a_o_dragCell, .inl (cyI, 6, .inl o_dragCell)), (a_o_dragBy, .inl (cyI, 6, .inl o_dragBy))]) (va_runS (As := [.ref a_o_ringTone, .ref a_o_image, .int r_3]) (rest := []) ⟨hx, hb, hml, hown, hts⟩ (c_X7_saves l dC dI cyI cyJ cyO H.size 7 570 a_o_ringTone a_o_image o_ringTone w_4 r_3 _ (okb2 hw)) (va_cwS 3 hts (gdS (fun w h => List.mem_cons_of_mem _ h) q_1065 q_1066 q_8 q_1067) rfl rfl rfl (by decide +kernel) ⟨Nat.le_of_ble_eq_true rfl, Nat.le_of_ble_eq_true rfl⟩) (kpre zN_ok hK hPc hDc trivial hS hFc) rfl rfl hl.1 rfl (lv_room (Nat.le_of_ble_eq_true rfl)) dX7_image_35 ⟨Nat.le_of_ble_eq_true rfl, Nat.le_of_ble_eq_true rfl⟩) hP hD hS hFc [3, 10] [0, 1, 2, 4, 5, 6, 7, 8, 9] rfl rfl (by decide +kernel) (by decide +kernel) (fun r_5 w_6 H locs hw hP hD hS => ?_)
  try dsimp only at hw
  have hP : va_P (dC, dI) vwCl (W_X7_image cyI cyJ cyO h_o a_o_sets a_o_ringFar a_o_ringTone a_o_currents a_o_warmths a_o_depths a_o_tape a_o_readFar a_o_readTone a_o_readSea a_o_code a_o_cellAt a_o_courseAt a_o_paceAt a_o_turnsAt a_o_slowAt a_o_fuelAt a_o_ringAt a_o_pieceParts a_o_dragCell a_o_dragBy a_o_sums a_o_shares a_o_keptFar a_o_image a_o_lanes a_o_sizes a_o_items a_o_movedItems o_taped o_at o_wrong o_level o_noRings o_noTones o_noFuel o_pieces o_drags o_all o_noPieces o_noDrags o_kept o_sets o_ringFar o_ringTone o_currents o_warmths o_depths o_pieceParts o_dragCell o_dragBy w_6) H := hP.sub [0, 1, 2, 9, 3, 4, 5, 6, 7, 8, 10] rfl
  have hD : va_D A (W_X7_image cyI cyJ cyO h_o a_o_sets a_o_ringFar a_o_ringTone a_o_currents a_o_warmths a_o_depths a_o_tape a_o_readFar a_o_readTone a_o_readSea a_o_code a_o_cellAt a_o_courseAt a_o_paceAt a_o_turnsAt a_o_slowAt a_o_fuelAt a_o_ringAt a_o_pieceParts a_o_dragCell a_o_dragBy a_o_sums a_o_shares a_o_keptFar a_o_image a_o_lanes a_o_sizes a_o_items a_o_movedItems o_taped o_at o_wrong o_level o_noRings o_noTones o_noFuel o_pieces o_drags o_all o_noPieces o_noDrags o_kept o_sets o_ringFar o_ringTone o_currents o_warmths o_depths o_pieceParts o_dragCell o_dragBy w_6) := hD.sub [0, 1, 2, 9, 3, 4, 5, 6, 7, 8, 10] (by decide +kernel) rfl
  clear hPc hDc hFc
  refine lv_istore_n (lv' := [(1, .int r_5), (0, .ref h_o)]) hx hb dX7_image_38 rfl hl (by decide) rfl (fun ls hl => ?_)
  refine lv_aload_n hx hb dX7_image_39 rfl (lv_at hl 1 rfl) ?_
  refine va_get (D := (dC, dI)) (ci := 7) (v := .ref a_o_currents) (C := RX7) (T := TX7) (N := 42) hx hb hts hi7 hown hK hP 0 rfl rfl 3 (by decide) hq5 (fun _ h9 => h9) rfl dX7_image_40 ?_
  refine lv_aload_n hx hb dX7_image_43 rfl (lv_at hl 1 rfl) ?_
  refine va_get (D := (dC, dI)) (ci := 7) (v := .ref a_o_image) (C := RX7) (T := TX7) (N := 42) hx hb hts hi7 hown hK hP 0 rfl rfl 36 (by decide) hq2 (fun _ h9 => h9) rfl dX7_image_44 ?_
  refine lv_iload_n hx hb dX7_image_47 rfl (lv_at hl 0 rfl) ?_
  have hPc := hP.sub (ws' := (W_X7_saves cyI cyJ cyO 200 570 a_o_currents a_o_image o_currents w_6)) [4, 10] rfl
  have hDc := hD.sub (ws' := (W_X7_saves cyI cyJ cyO 200 570 a_o_currents a_o_image o_currents w_6)) [4, 10] (by decide +kernel) rfl
  have hFc := va_free (wc := (W_X7_saves cyI cyJ cyO 200 570 a_o_currents a_o_image o_currents w_6)) hD hS hA [4, 10] rfl
  refine kc_i (wr := [(h_o, .inr (7, [.ref a_o_sets, .ref a_o_ringFar, .ref a_o_ringTone, .ref a_o_currents, .ref a_o_warmths, .ref a_o_depths, .ref a_o_tape, .int o_taped, .int o_at, .int o_wrong, .ref a_o_readFar, .ref a_o_readTone, .ref a_o_readSea, .ref a_o_code, .ref a_o_cellAt, .ref a_o_courseAt, .ref a_o_paceAt, .ref a_o_turnsAt, .ref a_o_slowAt, .ref a_o_fuelAt, .ref a_o_ringAt, .int o_level, .int o_noRings, .int o_noTones, .int o_noFuel, .int o_pieces, .ref a_o_pieceParts, .int o_drags, .ref a_o_dragCell, .ref a_o_dragBy, .ref a_o_sums, .long o_all, .int o_noPieces, .int o_noDrags, .ref a_o_shares, .ref a_o_keptFar, .ref a_o_image, .int o_kept, .ref a_o_lanes, .ref a_o_sizes, .ref a_o_items, .ref a_o_movedItems])), (a_o_sets, .inl (cyI, 8, .inl o_sets)), (a_o_ringFar, .inl (cyI, 7, .inl o_ringFar)), (a_o_ringTone, .inl (cyI, 7, .inl o_ringTone)), (a_o_warmths, .inl (cyI, 200, .inl o_warmths)), (a_o_depths, .inl (cyI, 100, .inl o_depths)), (a_o_pieceParts, .inl (cyI, 20, .inl o_pieceParts)), (a_o_dragCell, .inl (cyI, 6, .inl o_dragCell)), (a_o_dragBy, .inl (cyI, 6, .inl o_dragBy))]) (va_runS (As := [.ref a_o_currents, .ref a_o_image, .int r_5]) (rest := []) ⟨hx, hb, hml, hown, hts⟩ (c_X7_saves l dC dI cyI cyJ cyO H.size 200 570 a_o_currents a_o_image o_currents w_6 r_5 _ (okb2 hw)) (va_cwS 3 hts (gdS (fun w h => List.mem_cons_of_mem _ h) q_1065 q_1066 q_8 q_1067) rfl rfl rfl (by decide +kernel) ⟨Nat.le_of_ble_eq_true rfl, Nat.le_of_ble_eq_true rfl⟩) (kpre zN_ok hK hPc hDc trivial hS hFc) rfl rfl hl.1 rfl (lv_room (Nat.le_of_ble_eq_true rfl)) dX7_image_48 ⟨Nat.le_of_ble_eq_true rfl, Nat.le_of_ble_eq_true rfl⟩) hP hD hS hFc [4, 10] [0, 1, 2, 3, 5, 6, 7, 8, 9] rfl rfl (by decide +kernel) (by decide +kernel) (fun r_7 w_8 H locs hw hP hD hS => ?_)
  try dsimp only at hw
  have hP : va_P (dC, dI) vwCl (W_X7_image cyI cyJ cyO h_o a_o_sets a_o_ringFar a_o_ringTone a_o_currents a_o_warmths a_o_depths a_o_tape a_o_readFar a_o_readTone a_o_readSea a_o_code a_o_cellAt a_o_courseAt a_o_paceAt a_o_turnsAt a_o_slowAt a_o_fuelAt a_o_ringAt a_o_pieceParts a_o_dragCell a_o_dragBy a_o_sums a_o_shares a_o_keptFar a_o_image a_o_lanes a_o_sizes a_o_items a_o_movedItems o_taped o_at o_wrong o_level o_noRings o_noTones o_noFuel o_pieces o_drags o_all o_noPieces o_noDrags o_kept o_sets o_ringFar o_ringTone o_currents o_warmths o_depths o_pieceParts o_dragCell o_dragBy w_8) H := hP.sub [0, 1, 2, 3, 9, 4, 5, 6, 7, 8, 10] rfl
  have hD : va_D A (W_X7_image cyI cyJ cyO h_o a_o_sets a_o_ringFar a_o_ringTone a_o_currents a_o_warmths a_o_depths a_o_tape a_o_readFar a_o_readTone a_o_readSea a_o_code a_o_cellAt a_o_courseAt a_o_paceAt a_o_turnsAt a_o_slowAt a_o_fuelAt a_o_ringAt a_o_pieceParts a_o_dragCell a_o_dragBy a_o_sums a_o_shares a_o_keptFar a_o_image a_o_lanes a_o_sizes a_o_items a_o_movedItems o_taped o_at o_wrong o_level o_noRings o_noTones o_noFuel o_pieces o_drags o_all o_noPieces o_noDrags o_kept o_sets o_ringFar o_ringTone o_currents o_warmths o_depths o_pieceParts o_dragCell o_dragBy w_8) := hD.sub [0, 1, 2, 3, 9, 4, 5, 6, 7, 8, 10] (by decide +kernel) rfl
  clear hPc hDc hFc
  refine lv_istore_n (lv' := [(1, .int r_7), (0, .ref h_o)]) hx hb dX7_image_51 rfl hl (by decide) rfl (fun ls hl => ?_)
  refine lv_aload_n hx hb dX7_image_52 rfl (lv_at hl 1 rfl) ?_
  refine va_get (D := (dC, dI)) (ci := 7) (v := .ref a_o_warmths) (C := RX7) (T := TX7) (N := 42) hx hb hts hi7 hown hK hP 0 rfl rfl 4 (by decide) hq6 (fun _ h9 => h9) rfl dX7_image_53 ?_
  refine lv_aload_n hx hb dX7_image_56 rfl (lv_at hl 1 rfl) ?_
  refine va_get (D := (dC, dI)) (ci := 7) (v := .ref a_o_image) (C := RX7) (T := TX7) (N := 42) hx hb hts hi7 hown hK hP 0 rfl rfl 36 (by decide) hq2 (fun _ h9 => h9) rfl dX7_image_57 ?_
  refine lv_iload_n hx hb dX7_image_60 rfl (lv_at hl 0 rfl) ?_
  have hPc := hP.sub (ws' := (W_X7_saves cyI cyJ cyO 200 570 a_o_warmths a_o_image o_warmths w_8)) [5, 10] rfl
  have hDc := hD.sub (ws' := (W_X7_saves cyI cyJ cyO 200 570 a_o_warmths a_o_image o_warmths w_8)) [5, 10] (by decide +kernel) rfl
  have hFc := va_free (wc := (W_X7_saves cyI cyJ cyO 200 570 a_o_warmths a_o_image o_warmths w_8)) hD hS hA [5, 10] rfl
  refine kc_i (wr := [(h_o, .inr (7, [.ref a_o_sets, .ref a_o_ringFar, .ref a_o_ringTone, .ref a_o_currents, .ref a_o_warmths, .ref a_o_depths, .ref a_o_tape, .int o_taped, .int o_at, .int o_wrong, .ref a_o_readFar, .ref a_o_readTone, .ref a_o_readSea, .ref a_o_code, .ref a_o_cellAt, .ref a_o_courseAt, .ref a_o_paceAt, .ref a_o_turnsAt, .ref a_o_slowAt, .ref a_o_fuelAt, .ref a_o_ringAt, .int o_level, .int o_noRings, .int o_noTones, .int o_noFuel, .int o_pieces, .ref a_o_pieceParts, .int o_drags, .ref a_o_dragCell, .ref a_o_dragBy, .ref a_o_sums, .long o_all, .int o_noPieces, .int o_noDrags, .ref a_o_shares, .ref a_o_keptFar, .ref a_o_image, .int o_kept, .ref a_o_lanes, .ref a_o_sizes, .ref a_o_items, .ref a_o_movedItems])), (a_o_sets, .inl (cyI, 8, .inl o_sets)), (a_o_ringFar, .inl (cyI, 7, .inl o_ringFar)), (a_o_ringTone, .inl (cyI, 7, .inl o_ringTone)), (a_o_currents, .inl (cyI, 200, .inl o_currents)), (a_o_depths, .inl (cyI, 100, .inl o_depths)), (a_o_pieceParts, .inl (cyI, 20, .inl o_pieceParts)), (a_o_dragCell, .inl (cyI, 6, .inl o_dragCell)), (a_o_dragBy, .inl (cyI, 6, .inl o_dragBy))]) (va_runS (As := [.ref a_o_warmths, .ref a_o_image, .int r_7]) (rest := []) ⟨hx, hb, hml, hown, hts⟩ (c_X7_saves l dC dI cyI cyJ cyO H.size 200 570 a_o_warmths a_o_image o_warmths w_8 r_7 _ (okb2 hw)) (va_cwS 3 hts (gdS (fun w h => List.mem_cons_of_mem _ h) q_1065 q_1066 q_8 q_1067) rfl rfl rfl (by decide +kernel) ⟨Nat.le_of_ble_eq_true rfl, Nat.le_of_ble_eq_true rfl⟩) (kpre zN_ok hK hPc hDc trivial hS hFc) rfl rfl hl.1 rfl (lv_room (Nat.le_of_ble_eq_true rfl)) dX7_image_61 ⟨Nat.le_of_ble_eq_true rfl, Nat.le_of_ble_eq_true rfl⟩) hP hD hS hFc [5, 10] [0, 1, 2, 3, 4, 6, 7, 8, 9] rfl rfl (by decide +kernel) (by decide +kernel) (fun r_9 w_10 H locs hw hP hD hS => ?_)
  try dsimp only at hw
  have hP : va_P (dC, dI) vwCl (W_X7_image cyI cyJ cyO h_o a_o_sets a_o_ringFar a_o_ringTone a_o_currents a_o_warmths a_o_depths a_o_tape a_o_readFar a_o_readTone a_o_readSea a_o_code a_o_cellAt a_o_courseAt a_o_paceAt a_o_turnsAt a_o_slowAt a_o_fuelAt a_o_ringAt a_o_pieceParts a_o_dragCell a_o_dragBy a_o_sums a_o_shares a_o_keptFar a_o_image a_o_lanes a_o_sizes a_o_items a_o_movedItems o_taped o_at o_wrong o_level o_noRings o_noTones o_noFuel o_pieces o_drags o_all o_noPieces o_noDrags o_kept o_sets o_ringFar o_ringTone o_currents o_warmths o_depths o_pieceParts o_dragCell o_dragBy w_10) H := hP.sub [0, 1, 2, 3, 4, 9, 5, 6, 7, 8, 10] rfl
  have hD : va_D A (W_X7_image cyI cyJ cyO h_o a_o_sets a_o_ringFar a_o_ringTone a_o_currents a_o_warmths a_o_depths a_o_tape a_o_readFar a_o_readTone a_o_readSea a_o_code a_o_cellAt a_o_courseAt a_o_paceAt a_o_turnsAt a_o_slowAt a_o_fuelAt a_o_ringAt a_o_pieceParts a_o_dragCell a_o_dragBy a_o_sums a_o_shares a_o_keptFar a_o_image a_o_lanes a_o_sizes a_o_items a_o_movedItems o_taped o_at o_wrong o_level o_noRings o_noTones o_noFuel o_pieces o_drags o_all o_noPieces o_noDrags o_kept o_sets o_ringFar o_ringTone o_currents o_warmths o_depths o_pieceParts o_dragCell o_dragBy w_10) := hD.sub [0, 1, 2, 3, 4, 9, 5, 6, 7, 8, 10] (by decide +kernel) rfl
  clear hPc hDc hFc
  refine lv_istore_n (lv' := [(1, .int r_9), (0, .ref h_o)]) hx hb dX7_image_64 rfl hl (by decide) rfl (fun ls hl => ?_)
  refine lv_aload_n hx hb dX7_image_65 rfl (lv_at hl 1 rfl) ?_
  refine va_get (D := (dC, dI)) (ci := 7) (v := .ref a_o_depths) (C := RX7) (T := TX7) (N := 42) hx hb hts hi7 hown hK hP 0 rfl rfl 5 (by decide) hq7 (fun _ h9 => h9) rfl dX7_image_66 ?_
  refine lv_aload_n hx hb dX7_image_69 rfl (lv_at hl 1 rfl) ?_
  refine va_get (D := (dC, dI)) (ci := 7) (v := .ref a_o_image) (C := RX7) (T := TX7) (N := 42) hx hb hts hi7 hown hK hP 0 rfl rfl 36 (by decide) hq2 (fun _ h9 => h9) rfl dX7_image_70 ?_
  refine lv_iload_n hx hb dX7_image_73 rfl (lv_at hl 0 rfl) ?_
  have hPc := hP.sub (ws' := (W_X7_saves cyI cyJ cyO 100 570 a_o_depths a_o_image o_depths w_10)) [6, 10] rfl
  have hDc := hD.sub (ws' := (W_X7_saves cyI cyJ cyO 100 570 a_o_depths a_o_image o_depths w_10)) [6, 10] (by decide +kernel) rfl
  have hFc := va_free (wc := (W_X7_saves cyI cyJ cyO 100 570 a_o_depths a_o_image o_depths w_10)) hD hS hA [6, 10] rfl
  refine kc_i (wr := [(h_o, .inr (7, [.ref a_o_sets, .ref a_o_ringFar, .ref a_o_ringTone, .ref a_o_currents, .ref a_o_warmths, .ref a_o_depths, .ref a_o_tape, .int o_taped, .int o_at, .int o_wrong, .ref a_o_readFar, .ref a_o_readTone, .ref a_o_readSea, .ref a_o_code, .ref a_o_cellAt, .ref a_o_courseAt, .ref a_o_paceAt, .ref a_o_turnsAt, .ref a_o_slowAt, .ref a_o_fuelAt, .ref a_o_ringAt, .int o_level, .int o_noRings, .int o_noTones, .int o_noFuel, .int o_pieces, .ref a_o_pieceParts, .int o_drags, .ref a_o_dragCell, .ref a_o_dragBy, .ref a_o_sums, .long o_all, .int o_noPieces, .int o_noDrags, .ref a_o_shares, .ref a_o_keptFar, .ref a_o_image, .int o_kept, .ref a_o_lanes, .ref a_o_sizes, .ref a_o_items, .ref a_o_movedItems])), (a_o_sets, .inl (cyI, 8, .inl o_sets)), (a_o_ringFar, .inl (cyI, 7, .inl o_ringFar)), (a_o_ringTone, .inl (cyI, 7, .inl o_ringTone)), (a_o_currents, .inl (cyI, 200, .inl o_currents)), (a_o_warmths, .inl (cyI, 200, .inl o_warmths)), (a_o_pieceParts, .inl (cyI, 20, .inl o_pieceParts)), (a_o_dragCell, .inl (cyI, 6, .inl o_dragCell)), (a_o_dragBy, .inl (cyI, 6, .inl o_dragBy))]) (va_runS (As := [.ref a_o_depths, .ref a_o_image, .int r_9]) (rest := []) ⟨hx, hb, hml, hown, hts⟩ (c_X7_saves l dC dI cyI cyJ cyO H.size 100 570 a_o_depths a_o_image o_depths w_10 r_9 _ (okb2 hw)) (va_cwS 3 hts (gdS (fun w h => List.mem_cons_of_mem _ h) q_1065 q_1066 q_8 q_1067) rfl rfl rfl (by decide +kernel) ⟨Nat.le_of_ble_eq_true rfl, Nat.le_of_ble_eq_true rfl⟩) (kpre zN_ok hK hPc hDc trivial hS hFc) rfl rfl hl.1 rfl (lv_room (Nat.le_of_ble_eq_true rfl)) dX7_image_74 ⟨Nat.le_of_ble_eq_true rfl, Nat.le_of_ble_eq_true rfl⟩) hP hD hS hFc [6, 10] [0, 1, 2, 3, 4, 5, 7, 8, 9] rfl rfl (by decide +kernel) (by decide +kernel) (fun r_11 w_12 H locs hw hP hD hS => ?_)
  try dsimp only at hw
  have hP : va_P (dC, dI) vwCl (W_X7_image cyI cyJ cyO h_o a_o_sets a_o_ringFar a_o_ringTone a_o_currents a_o_warmths a_o_depths a_o_tape a_o_readFar a_o_readTone a_o_readSea a_o_code a_o_cellAt a_o_courseAt a_o_paceAt a_o_turnsAt a_o_slowAt a_o_fuelAt a_o_ringAt a_o_pieceParts a_o_dragCell a_o_dragBy a_o_sums a_o_shares a_o_keptFar a_o_image a_o_lanes a_o_sizes a_o_items a_o_movedItems o_taped o_at o_wrong o_level o_noRings o_noTones o_noFuel o_pieces o_drags o_all o_noPieces o_noDrags o_kept o_sets o_ringFar o_ringTone o_currents o_warmths o_depths o_pieceParts o_dragCell o_dragBy w_12) H := hP.sub [0, 1, 2, 3, 4, 5, 9, 6, 7, 8, 10] rfl
  have hD : va_D A (W_X7_image cyI cyJ cyO h_o a_o_sets a_o_ringFar a_o_ringTone a_o_currents a_o_warmths a_o_depths a_o_tape a_o_readFar a_o_readTone a_o_readSea a_o_code a_o_cellAt a_o_courseAt a_o_paceAt a_o_turnsAt a_o_slowAt a_o_fuelAt a_o_ringAt a_o_pieceParts a_o_dragCell a_o_dragBy a_o_sums a_o_shares a_o_keptFar a_o_image a_o_lanes a_o_sizes a_o_items a_o_movedItems o_taped o_at o_wrong o_level o_noRings o_noTones o_noFuel o_pieces o_drags o_all o_noPieces o_noDrags o_kept o_sets o_ringFar o_ringTone o_currents o_warmths o_depths o_pieceParts o_dragCell o_dragBy w_12) := hD.sub [0, 1, 2, 3, 4, 5, 9, 6, 7, 8, 10] (by decide +kernel) rfl
  clear hPc hDc hFc
  refine lv_istore_n (lv' := [(1, .int r_11), (0, .ref h_o)]) hx hb dX7_image_77 rfl hl (by decide) rfl (fun ls hl => ?_)
  refine lv_aload_n hx hb dX7_image_78 rfl (lv_at hl 1 rfl) ?_
  refine va_get (D := (dC, dI)) (ci := 7) (v := .ref a_o_pieceParts) (C := RX7) (T := TX7) (N := 42) hx hb hts hi7 hown hK hP 0 rfl rfl 26 (by decide) hq8 (fun _ h9 => h9) rfl dX7_image_79 ?_
  refine lv_aload_n hx hb dX7_image_82 rfl (lv_at hl 1 rfl) ?_
  refine va_get (D := (dC, dI)) (ci := 7) (v := .ref a_o_image) (C := RX7) (T := TX7) (N := 42) hx hb hts hi7 hown hK hP 0 rfl rfl 36 (by decide) hq2 (fun _ h9 => h9) rfl dX7_image_83 ?_
  refine lv_iload_n hx hb dX7_image_86 rfl (lv_at hl 0 rfl) ?_
  have hPc := hP.sub (ws' := (W_X7_saves cyI cyJ cyO 20 570 a_o_pieceParts a_o_image o_pieceParts w_12)) [7, 10] rfl
  have hDc := hD.sub (ws' := (W_X7_saves cyI cyJ cyO 20 570 a_o_pieceParts a_o_image o_pieceParts w_12)) [7, 10] (by decide +kernel) rfl
  have hFc := va_free (wc := (W_X7_saves cyI cyJ cyO 20 570 a_o_pieceParts a_o_image o_pieceParts w_12)) hD hS hA [7, 10] rfl
  refine kc_i (wr := [(h_o, .inr (7, [.ref a_o_sets, .ref a_o_ringFar, .ref a_o_ringTone, .ref a_o_currents, .ref a_o_warmths, .ref a_o_depths, .ref a_o_tape, .int o_taped, .int o_at, .int o_wrong, .ref a_o_readFar, .ref a_o_readTone, .ref a_o_readSea, .ref a_o_code, .ref a_o_cellAt, .ref a_o_courseAt, .ref a_o_paceAt, .ref a_o_turnsAt, .ref a_o_slowAt, .ref a_o_fuelAt, .ref a_o_ringAt, .int o_level, .int o_noRings, .int o_noTones, .int o_noFuel, .int o_pieces, .ref a_o_pieceParts, .int o_drags, .ref a_o_dragCell, .ref a_o_dragBy, .ref a_o_sums, .long o_all, .int o_noPieces, .int o_noDrags, .ref a_o_shares, .ref a_o_keptFar, .ref a_o_image, .int o_kept, .ref a_o_lanes, .ref a_o_sizes, .ref a_o_items, .ref a_o_movedItems])), (a_o_sets, .inl (cyI, 8, .inl o_sets)), (a_o_ringFar, .inl (cyI, 7, .inl o_ringFar)), (a_o_ringTone, .inl (cyI, 7, .inl o_ringTone)), (a_o_currents, .inl (cyI, 200, .inl o_currents)), (a_o_warmths, .inl (cyI, 200, .inl o_warmths)), (a_o_depths, .inl (cyI, 100, .inl o_depths)), (a_o_dragCell, .inl (cyI, 6, .inl o_dragCell)), (a_o_dragBy, .inl (cyI, 6, .inl o_dragBy))]) (va_runS (As := [.ref a_o_pieceParts, .ref a_o_image, .int r_11]) (rest := []) ⟨hx, hb, hml, hown, hts⟩ (c_X7_saves l dC dI cyI cyJ cyO H.size 20 570 a_o_pieceParts a_o_image o_pieceParts w_12 r_11 _ (okb2 hw)) (va_cwS 3 hts (gdS (fun w h => List.mem_cons_of_mem _ h) q_1065 q_1066 q_8 q_1067) rfl rfl rfl (by decide +kernel) ⟨Nat.le_of_ble_eq_true rfl, Nat.le_of_ble_eq_true rfl⟩) (kpre zN_ok hK hPc hDc trivial hS hFc) rfl rfl hl.1 rfl (lv_room (Nat.le_of_ble_eq_true rfl)) dX7_image_87 ⟨Nat.le_of_ble_eq_true rfl, Nat.le_of_ble_eq_true rfl⟩) hP hD hS hFc [7, 10] [0, 1, 2, 3, 4, 5, 6, 8, 9] rfl rfl (by decide +kernel) (by decide +kernel) (fun r_13 w_14 H locs hw hP hD hS => ?_)
  try dsimp only at hw
  have hP : va_P (dC, dI) vwCl (W_X7_image cyI cyJ cyO h_o a_o_sets a_o_ringFar a_o_ringTone a_o_currents a_o_warmths a_o_depths a_o_tape a_o_readFar a_o_readTone a_o_readSea a_o_code a_o_cellAt a_o_courseAt a_o_paceAt a_o_turnsAt a_o_slowAt a_o_fuelAt a_o_ringAt a_o_pieceParts a_o_dragCell a_o_dragBy a_o_sums a_o_shares a_o_keptFar a_o_image a_o_lanes a_o_sizes a_o_items a_o_movedItems o_taped o_at o_wrong o_level o_noRings o_noTones o_noFuel o_pieces o_drags o_all o_noPieces o_noDrags o_kept o_sets o_ringFar o_ringTone o_currents o_warmths o_depths o_pieceParts o_dragCell o_dragBy w_14) H := hP.sub [0, 1, 2, 3, 4, 5, 6, 9, 7, 8, 10] rfl
  have hD : va_D A (W_X7_image cyI cyJ cyO h_o a_o_sets a_o_ringFar a_o_ringTone a_o_currents a_o_warmths a_o_depths a_o_tape a_o_readFar a_o_readTone a_o_readSea a_o_code a_o_cellAt a_o_courseAt a_o_paceAt a_o_turnsAt a_o_slowAt a_o_fuelAt a_o_ringAt a_o_pieceParts a_o_dragCell a_o_dragBy a_o_sums a_o_shares a_o_keptFar a_o_image a_o_lanes a_o_sizes a_o_items a_o_movedItems o_taped o_at o_wrong o_level o_noRings o_noTones o_noFuel o_pieces o_drags o_all o_noPieces o_noDrags o_kept o_sets o_ringFar o_ringTone o_currents o_warmths o_depths o_pieceParts o_dragCell o_dragBy w_14) := hD.sub [0, 1, 2, 3, 4, 5, 6, 9, 7, 8, 10] (by decide +kernel) rfl
  clear hPc hDc hFc
  refine lv_istore_n (lv' := [(1, .int r_13), (0, .ref h_o)]) hx hb dX7_image_90 rfl hl (by decide) rfl (fun ls hl => ?_)
  refine lv_aload_n hx hb dX7_image_91 rfl (lv_at hl 1 rfl) ?_
  refine va_get (D := (dC, dI)) (ci := 7) (v := .ref a_o_dragCell) (C := RX7) (T := TX7) (N := 42) hx hb hts hi7 hown hK hP 0 rfl rfl 28 (by decide) hq9 (fun _ h9 => h9) rfl dX7_image_92 ?_
  refine lv_aload_n hx hb dX7_image_95 rfl (lv_at hl 1 rfl) ?_
  refine va_get (D := (dC, dI)) (ci := 7) (v := .ref a_o_image) (C := RX7) (T := TX7) (N := 42) hx hb hts hi7 hown hK hP 0 rfl rfl 36 (by decide) hq2 (fun _ h9 => h9) rfl dX7_image_96 ?_
  refine lv_iload_n hx hb dX7_image_99 rfl (lv_at hl 0 rfl) ?_
  have hPc := hP.sub (ws' := (W_X7_saves cyI cyJ cyO 6 570 a_o_dragCell a_o_image o_dragCell w_14)) [8, 10] rfl
  have hDc := hD.sub (ws' := (W_X7_saves cyI cyJ cyO 6 570 a_o_dragCell a_o_image o_dragCell w_14)) [8, 10] (by decide +kernel) rfl
  have hFc := va_free (wc := (W_X7_saves cyI cyJ cyO 6 570 a_o_dragCell a_o_image o_dragCell w_14)) hD hS hA [8, 10] rfl
  refine kc_i (wr := [(h_o, .inr (7, [.ref a_o_sets, .ref a_o_ringFar, .ref a_o_ringTone, .ref a_o_currents, .ref a_o_warmths, .ref a_o_depths, .ref a_o_tape, .int o_taped, .int o_at, .int o_wrong, .ref a_o_readFar, .ref a_o_readTone, .ref a_o_readSea, .ref a_o_code, .ref a_o_cellAt, .ref a_o_courseAt, .ref a_o_paceAt, .ref a_o_turnsAt, .ref a_o_slowAt, .ref a_o_fuelAt, .ref a_o_ringAt, .int o_level, .int o_noRings, .int o_noTones, .int o_noFuel, .int o_pieces, .ref a_o_pieceParts, .int o_drags, .ref a_o_dragCell, .ref a_o_dragBy, .ref a_o_sums, .long o_all, .int o_noPieces, .int o_noDrags, .ref a_o_shares, .ref a_o_keptFar, .ref a_o_image, .int o_kept, .ref a_o_lanes, .ref a_o_sizes, .ref a_o_items, .ref a_o_movedItems])), (a_o_sets, .inl (cyI, 8, .inl o_sets)), (a_o_ringFar, .inl (cyI, 7, .inl o_ringFar)), (a_o_ringTone, .inl (cyI, 7, .inl o_ringTone)), (a_o_currents, .inl (cyI, 200, .inl o_currents)), (a_o_warmths, .inl (cyI, 200, .inl o_warmths)), (a_o_depths, .inl (cyI, 100, .inl o_depths)), (a_o_pieceParts, .inl (cyI, 20, .inl o_pieceParts)), (a_o_dragBy, .inl (cyI, 6, .inl o_dragBy))]) (va_runS (As := [.ref a_o_dragCell, .ref a_o_image, .int r_13]) (rest := []) ⟨hx, hb, hml, hown, hts⟩ (c_X7_saves l dC dI cyI cyJ cyO H.size 6 570 a_o_dragCell a_o_image o_dragCell w_14 r_13 _ (okb2 hw)) (va_cwS 3 hts (gdS (fun w h => List.mem_cons_of_mem _ h) q_1065 q_1066 q_8 q_1067) rfl rfl rfl (by decide +kernel) ⟨Nat.le_of_ble_eq_true rfl, Nat.le_of_ble_eq_true rfl⟩) (kpre zN_ok hK hPc hDc trivial hS hFc) rfl rfl hl.1 rfl (lv_room (Nat.le_of_ble_eq_true rfl)) dX7_image_100 ⟨Nat.le_of_ble_eq_true rfl, Nat.le_of_ble_eq_true rfl⟩) hP hD hS hFc [8, 10] [0, 1, 2, 3, 4, 5, 6, 7, 9] rfl rfl (by decide +kernel) (by decide +kernel) (fun r_15 w_16 H locs hw hP hD hS => ?_)
  try dsimp only at hw
  have hP : va_P (dC, dI) vwCl (W_X7_image cyI cyJ cyO h_o a_o_sets a_o_ringFar a_o_ringTone a_o_currents a_o_warmths a_o_depths a_o_tape a_o_readFar a_o_readTone a_o_readSea a_o_code a_o_cellAt a_o_courseAt a_o_paceAt a_o_turnsAt a_o_slowAt a_o_fuelAt a_o_ringAt a_o_pieceParts a_o_dragCell a_o_dragBy a_o_sums a_o_shares a_o_keptFar a_o_image a_o_lanes a_o_sizes a_o_items a_o_movedItems o_taped o_at o_wrong o_level o_noRings o_noTones o_noFuel o_pieces o_drags o_all o_noPieces o_noDrags o_kept o_sets o_ringFar o_ringTone o_currents o_warmths o_depths o_pieceParts o_dragCell o_dragBy w_16) H := hP.sub [0, 1, 2, 3, 4, 5, 6, 7, 9, 8, 10] rfl
  have hD : va_D A (W_X7_image cyI cyJ cyO h_o a_o_sets a_o_ringFar a_o_ringTone a_o_currents a_o_warmths a_o_depths a_o_tape a_o_readFar a_o_readTone a_o_readSea a_o_code a_o_cellAt a_o_courseAt a_o_paceAt a_o_turnsAt a_o_slowAt a_o_fuelAt a_o_ringAt a_o_pieceParts a_o_dragCell a_o_dragBy a_o_sums a_o_shares a_o_keptFar a_o_image a_o_lanes a_o_sizes a_o_items a_o_movedItems o_taped o_at o_wrong o_level o_noRings o_noTones o_noFuel o_pieces o_drags o_all o_noPieces o_noDrags o_kept o_sets o_ringFar o_ringTone o_currents o_warmths o_depths o_pieceParts o_dragCell o_dragBy w_16) := hD.sub [0, 1, 2, 3, 4, 5, 6, 7, 9, 8, 10] (by decide +kernel) rfl
  clear hPc hDc hFc
  refine lv_istore_n (lv' := [(1, .int r_15), (0, .ref h_o)]) hx hb dX7_image_103 rfl hl (by decide) rfl (fun ls hl => ?_)
  refine lv_aload_n hx hb dX7_image_104 rfl (lv_at hl 1 rfl) ?_
  refine va_get (D := (dC, dI)) (ci := 7) (v := .ref a_o_dragBy) (C := RX7) (T := TX7) (N := 42) hx hb hts hi7 hown hK hP 0 rfl rfl 29 (by decide) hq10 (fun _ h9 => h9) rfl dX7_image_105 ?_
  refine lv_aload_n hx hb dX7_image_108 rfl (lv_at hl 1 rfl) ?_
  refine va_get (D := (dC, dI)) (ci := 7) (v := .ref a_o_image) (C := RX7) (T := TX7) (N := 42) hx hb hts hi7 hown hK hP 0 rfl rfl 36 (by decide) hq2 (fun _ h9 => h9) rfl dX7_image_109 ?_
  refine lv_iload_n hx hb dX7_image_112 rfl (lv_at hl 0 rfl) ?_
  have hPc := hP.sub (ws' := (W_X7_saves cyI cyJ cyO 6 570 a_o_dragBy a_o_image o_dragBy w_16)) [9, 10] rfl
  have hDc := hD.sub (ws' := (W_X7_saves cyI cyJ cyO 6 570 a_o_dragBy a_o_image o_dragBy w_16)) [9, 10] (by decide +kernel) rfl
  have hFc := va_free (wc := (W_X7_saves cyI cyJ cyO 6 570 a_o_dragBy a_o_image o_dragBy w_16)) hD hS hA [9, 10] rfl
  refine kc_i (wr := [(h_o, .inr (7, [.ref a_o_sets, .ref a_o_ringFar, .ref a_o_ringTone, .ref a_o_currents, .ref a_o_warmths, .ref a_o_depths, .ref a_o_tape, .int o_taped, .int o_at, .int o_wrong, .ref a_o_readFar, .ref a_o_readTone, .ref a_o_readSea, .ref a_o_code, .ref a_o_cellAt, .ref a_o_courseAt, .ref a_o_paceAt, .ref a_o_turnsAt, .ref a_o_slowAt, .ref a_o_fuelAt, .ref a_o_ringAt, .int o_level, .int o_noRings, .int o_noTones, .int o_noFuel, .int o_pieces, .ref a_o_pieceParts, .int o_drags, .ref a_o_dragCell, .ref a_o_dragBy, .ref a_o_sums, .long o_all, .int o_noPieces, .int o_noDrags, .ref a_o_shares, .ref a_o_keptFar, .ref a_o_image, .int o_kept, .ref a_o_lanes, .ref a_o_sizes, .ref a_o_items, .ref a_o_movedItems])), (a_o_sets, .inl (cyI, 8, .inl o_sets)), (a_o_ringFar, .inl (cyI, 7, .inl o_ringFar)), (a_o_ringTone, .inl (cyI, 7, .inl o_ringTone)), (a_o_currents, .inl (cyI, 200, .inl o_currents)), (a_o_warmths, .inl (cyI, 200, .inl o_warmths)), (a_o_depths, .inl (cyI, 100, .inl o_depths)), (a_o_pieceParts, .inl (cyI, 20, .inl o_pieceParts)), (a_o_dragCell, .inl (cyI, 6, .inl o_dragCell))]) (va_runS (As := [.ref a_o_dragBy, .ref a_o_image, .int r_15]) (rest := []) ⟨hx, hb, hml, hown, hts⟩ (c_X7_saves l dC dI cyI cyJ cyO H.size 6 570 a_o_dragBy a_o_image o_dragBy w_16 r_15 _ (okb2 hw)) (va_cwS 3 hts (gdS (fun w h => List.mem_cons_of_mem _ h) q_1065 q_1066 q_8 q_1067) rfl rfl rfl (by decide +kernel) ⟨Nat.le_of_ble_eq_true rfl, Nat.le_of_ble_eq_true rfl⟩) (kpre zN_ok hK hPc hDc trivial hS hFc) rfl rfl hl.1 rfl (lv_room (Nat.le_of_ble_eq_true rfl)) dX7_image_113 ⟨Nat.le_of_ble_eq_true rfl, Nat.le_of_ble_eq_true rfl⟩) hP hD hS hFc [9, 10] [0, 1, 2, 3, 4, 5, 6, 7, 8] rfl rfl (by decide +kernel) (by decide +kernel) (fun r_17 w_18 H locs hw hP hD hS => ?_)
  try dsimp only at hw
  have hP : va_P (dC, dI) vwCl (W_X7_image cyI cyJ cyO h_o a_o_sets a_o_ringFar a_o_ringTone a_o_currents a_o_warmths a_o_depths a_o_tape a_o_readFar a_o_readTone a_o_readSea a_o_code a_o_cellAt a_o_courseAt a_o_paceAt a_o_turnsAt a_o_slowAt a_o_fuelAt a_o_ringAt a_o_pieceParts a_o_dragCell a_o_dragBy a_o_sums a_o_shares a_o_keptFar a_o_image a_o_lanes a_o_sizes a_o_items a_o_movedItems o_taped o_at o_wrong o_level o_noRings o_noTones o_noFuel o_pieces o_drags o_all o_noPieces o_noDrags o_kept o_sets o_ringFar o_ringTone o_currents o_warmths o_depths o_pieceParts o_dragCell o_dragBy w_18) H := hP.sub [0, 1, 2, 3, 4, 5, 6, 7, 8, 9, 10] rfl
  have hD : va_D A (W_X7_image cyI cyJ cyO h_o a_o_sets a_o_ringFar a_o_ringTone a_o_currents a_o_warmths a_o_depths a_o_tape a_o_readFar a_o_readTone a_o_readSea a_o_code a_o_cellAt a_o_courseAt a_o_paceAt a_o_turnsAt a_o_slowAt a_o_fuelAt a_o_ringAt a_o_pieceParts a_o_dragCell a_o_dragBy a_o_sums a_o_shares a_o_keptFar a_o_image a_o_lanes a_o_sizes a_o_items a_o_movedItems o_taped o_at o_wrong o_level o_noRings o_noTones o_noFuel o_pieces o_drags o_all o_noPieces o_noDrags o_kept o_sets o_ringFar o_ringTone o_currents o_warmths o_depths o_pieceParts o_dragCell o_dragBy w_18) := hD.sub [0, 1, 2, 3, 4, 5, 6, 7, 8, 9, 10] (by decide +kernel) rfl
  clear hPc hDc hFc
  refine lv_istore_n (lv' := [(1, .int r_17), (0, .ref h_o)]) hx hb dX7_image_116 rfl hl (by decide) rfl (fun ls hl => ?_)
  refine lv_aload_n hx hb dX7_image_117 rfl (lv_at hl 1 rfl) ?_
  refine va_get (D := (dC, dI)) (ci := 7) (v := .ref a_o_image) (C := RX7) (T := TX7) (N := 42) hx hb hts hi7 hown hK hP 0 rfl rfl 36 (by decide) hq2 (fun _ h9 => h9) rfl dX7_image_118 ?_
  refine lv_iload_n hx hb dX7_image_121 rfl (lv_at hl 0 rfl) ?_
  refine lv_aload_n hx hb dX7_image_122 rfl (lv_at hl 1 rfl) ?_
  refine va_get (D := (dC, dI)) (ci := 7) (v := .int o_pieces) (C := RX7) (T := TX7) (N := 42) hx hb hts hi7 hown hK hP 0 rfl rfl 25 (by decide) hq11 (fun _ h9 => h9) rfl dX7_image_123 ?_
  obtain ⟨h_19, hw⟩ := okC hw
  refine va_iast (i := r_17) (x := o_pieces) hx hb hK hP hD hS 10 0 rfl rfl h_19 dX7_image_126 (fun H locs hP hD hS => ?_)
  have hP : va_P (dC, dI) vwCl (W_X7_image cyI cyJ cyO h_o a_o_sets a_o_ringFar a_o_ringTone a_o_currents a_o_warmths a_o_depths a_o_tape a_o_readFar a_o_readTone a_o_readSea a_o_code a_o_cellAt a_o_courseAt a_o_paceAt a_o_turnsAt a_o_slowAt a_o_fuelAt a_o_ringAt a_o_pieceParts a_o_dragCell a_o_dragBy a_o_sums a_o_shares a_o_keptFar a_o_image a_o_lanes a_o_sizes a_o_items a_o_movedItems o_taped o_at o_wrong o_level o_noRings o_noTones o_noFuel o_pieces o_drags o_all o_noPieces o_noDrags o_kept o_sets o_ringFar o_ringTone o_currents o_warmths o_depths o_pieceParts o_dragCell o_dragBy (upd w_18 r_17.toNatClampNeg o_pieces)) H := hP
  have hD : va_D A (W_X7_image cyI cyJ cyO h_o a_o_sets a_o_ringFar a_o_ringTone a_o_currents a_o_warmths a_o_depths a_o_tape a_o_readFar a_o_readTone a_o_readSea a_o_code a_o_cellAt a_o_courseAt a_o_paceAt a_o_turnsAt a_o_slowAt a_o_fuelAt a_o_ringAt a_o_pieceParts a_o_dragCell a_o_dragBy a_o_sums a_o_shares a_o_keptFar a_o_image a_o_lanes a_o_sizes a_o_items a_o_movedItems o_taped o_at o_wrong o_level o_noRings o_noTones o_noFuel o_pieces o_drags o_all o_noPieces o_noDrags o_kept o_sets o_ringFar o_ringTone o_currents o_warmths o_depths o_pieceParts o_dragCell o_dragBy (upd w_18 r_17.toNatClampNeg o_pieces)) := hD
  refine lv_aload_n hx hb dX7_image_127 rfl (lv_at hl 1 rfl) ?_
  refine va_get (D := (dC, dI)) (ci := 7) (v := .ref a_o_image) (C := RX7) (T := TX7) (N := 42) hx hb hts hi7 hown hK hP 0 rfl rfl 36 (by decide) hq2 (fun _ h9 => h9) rfl dX7_image_128 ?_
  refine lv_iload_n hx hb dX7_image_131 rfl (lv_at hl 0 rfl) ?_
  refine lv_iconst (v := 1) hx hb dX7_image_132 (by decide) ?_
  refine lv_iadd hx hb dX7_image_133 ?_
  refine lv_aload_n hx hb dX7_image_134 rfl (lv_at hl 1 rfl) ?_
  refine va_get (D := (dC, dI)) (ci := 7) (v := .int o_drags) (C := RX7) (T := TX7) (N := 42) hx hb hts hi7 hown hK hP 0 rfl rfl 27 (by decide) hq12 (fun _ h9 => h9) rfl dX7_image_135 ?_
  obtain ⟨h_20, hw⟩ := okC hw
  refine va_iast (i := r_17 + 1) (x := o_drags) hx hb hK hP hD hS 10 0 rfl rfl h_20 dX7_image_138 (fun H locs hP hD hS => ?_)
  have hP : va_P (dC, dI) vwCl (W_X7_image cyI cyJ cyO h_o a_o_sets a_o_ringFar a_o_ringTone a_o_currents a_o_warmths a_o_depths a_o_tape a_o_readFar a_o_readTone a_o_readSea a_o_code a_o_cellAt a_o_courseAt a_o_paceAt a_o_turnsAt a_o_slowAt a_o_fuelAt a_o_ringAt a_o_pieceParts a_o_dragCell a_o_dragBy a_o_sums a_o_shares a_o_keptFar a_o_image a_o_lanes a_o_sizes a_o_items a_o_movedItems o_taped o_at o_wrong o_level o_noRings o_noTones o_noFuel o_pieces o_drags o_all o_noPieces o_noDrags o_kept o_sets o_ringFar o_ringTone o_currents o_warmths o_depths o_pieceParts o_dragCell o_dragBy (upd (upd w_18 r_17.toNatClampNeg o_pieces) (r_17 + 1).toNatClampNeg o_drags)) H := hP
  have hD : va_D A (W_X7_image cyI cyJ cyO h_o a_o_sets a_o_ringFar a_o_ringTone a_o_currents a_o_warmths a_o_depths a_o_tape a_o_readFar a_o_readTone a_o_readSea a_o_code a_o_cellAt a_o_courseAt a_o_paceAt a_o_turnsAt a_o_slowAt a_o_fuelAt a_o_ringAt a_o_pieceParts a_o_dragCell a_o_dragBy a_o_sums a_o_shares a_o_keptFar a_o_image a_o_lanes a_o_sizes a_o_items a_o_movedItems o_taped o_at o_wrong o_level o_noRings o_noTones o_noFuel o_pieces o_drags o_all o_noPieces o_noDrags o_kept o_sets o_ringFar o_ringTone o_currents o_warmths o_depths o_pieceParts o_dragCell o_dragBy (upd (upd w_18 r_17.toNatClampNeg o_pieces) (r_17 + 1).toNatClampNeg o_drags)) := hD
  refine lv_aload_n hx hb dX7_image_139 rfl (lv_at hl 1 rfl) ?_
  refine lv_iconst (v := 1) hx hb dX7_image_140 (by decide) ?_
  refine va_put (D := (dC, dI)) (ci := 7) (v := .int 1) (ty := .boolean) (C := RX7) (T := TX7) (N := 42) hx hb hts hi7 tyX7 tyX7_ok nmX7 hown hK hP hD hS 0 rfl rfl 37 (by decide) hq13 (fun _ h9 => h9) rfl (by decide +kernel) rfl rfl (Nat.le_of_ble_eq_true rfl) dX7_image_141 (fun H locs hP hD hS => ?_)
  have hP : va_P (dC, dI) vwCl (W_X7_image cyI cyJ cyO h_o a_o_sets a_o_ringFar a_o_ringTone a_o_currents a_o_warmths a_o_depths a_o_tape a_o_readFar a_o_readTone a_o_readSea a_o_code a_o_cellAt a_o_courseAt a_o_paceAt a_o_turnsAt a_o_slowAt a_o_fuelAt a_o_ringAt a_o_pieceParts a_o_dragCell a_o_dragBy a_o_sums a_o_shares a_o_keptFar a_o_image a_o_lanes a_o_sizes a_o_items a_o_movedItems o_taped o_at o_wrong o_level o_noRings o_noTones o_noFuel o_pieces o_drags o_all o_noPieces o_noDrags 1 o_sets o_ringFar o_ringTone o_currents o_warmths o_depths o_pieceParts o_dragCell o_dragBy (upd (upd w_18 r_17.toNatClampNeg o_pieces) (r_17 + 1).toNatClampNeg o_drags)) H := hP
  have hD : va_D A (W_X7_image cyI cyJ cyO h_o a_o_sets a_o_ringFar a_o_ringTone a_o_currents a_o_warmths a_o_depths a_o_tape a_o_readFar a_o_readTone a_o_readSea a_o_code a_o_cellAt a_o_courseAt a_o_paceAt a_o_turnsAt a_o_slowAt a_o_fuelAt a_o_ringAt a_o_pieceParts a_o_dragCell a_o_dragBy a_o_sums a_o_shares a_o_keptFar a_o_image a_o_lanes a_o_sizes a_o_items a_o_movedItems o_taped o_at o_wrong o_level o_noRings o_noTones o_noFuel o_pieces o_drags o_all o_noPieces o_noDrags 1 o_sets o_ringFar o_ringTone o_currents o_warmths o_depths o_pieceParts o_dragCell o_dragBy (upd (upd w_18 r_17.toNatClampNeg o_pieces) (r_17 + 1).toNatClampNeg o_drags)) := hD
  refine lv_iconst (v := 1) hx hb dX7_image_144 (by decide) ?_
  rw [hQ]
  exact W.iret (v := 1) hx hb hr (fun t ht hW => ⟨⟨1, (1, upd (upd w_18 r_17.toNatClampNeg o_pieces) (r_17 + 1).toNatClampNeg o_drags), rfl, okS hw, by rw [ht]; exact hP, va_K.moved hW.alike hK, hD⟩, hS.F ht⟩) hS.2.2 dX7_image_145
/-! ===== X7_restore ===== -/
theorem dX7_restore_0 : decode cX7_restore 0 = .ok (.aload_n 0, 1) := by decide +kernel
theorem dX7_restore_1 : decode cX7_restore 1 = .ok (.getfield 276, 3) := by decide +kernel
theorem dX7_restore_4 : decode cX7_restore 4 = .ok (.ifCond .ne 6, 3) := by decide +kernel
theorem dX7_restore_7 : decode cX7_restore 7 = .ok (.bipush (-4), 2) := by decide +kernel
theorem dX7_restore_9 : decode cX7_restore 9 = .ok (.ireturn, 1) := by decide +kernel
theorem dX7_restore_10 : decode cX7_restore 10 = .ok (.aload_n 0, 1) := by decide +kernel
theorem dX7_restore_11 : decode cX7_restore 11 = .ok (.getfield 83, 3) := by decide +kernel
theorem dX7_restore_14 : decode cX7_restore 14 = .ok (.iconst 0, 1) := by decide +kernel
theorem dX7_restore_15 : decode cX7_restore 15 = .ok (.aload_n 0, 1) := by decide +kernel
theorem dX7_restore_16 : decode cX7_restore 16 = .ok (.getfield 7, 3) := by decide +kernel
theorem dX7_restore_19 : decode cX7_restore 19 = .ok (.invokestatic 279, 3) := by decide +kernel
theorem dX7_restore_22 : decode cX7_restore 22 = .ok (.istore_n 1, 1) := by decide +kernel
theorem dX7_restore_23 : decode cX7_restore 23 = .ok (.aload_n 0, 1) := by decide +kernel
theorem dX7_restore_24 : decode cX7_restore 24 = .ok (.getfield 83, 3) := by decide +kernel
theorem dX7_restore_27 : decode cX7_restore 27 = .ok (.iload_n 1, 1) := by decide +kernel
theorem dX7_restore_28 : decode cX7_restore 28 = .ok (.aload_n 0, 1) := by decide +kernel
theorem dX7_restore_29 : decode cX7_restore 29 = .ok (.getfield 13, 3) := by decide +kernel
theorem dX7_restore_32 : decode cX7_restore 32 = .ok (.invokestatic 279, 3) := by decide +kernel
theorem dX7_restore_35 : decode cX7_restore 35 = .ok (.istore_n 1, 1) := by decide +kernel
theorem dX7_restore_36 : decode cX7_restore 36 = .ok (.aload_n 0, 1) := by decide +kernel
theorem dX7_restore_37 : decode cX7_restore 37 = .ok (.getfield 83, 3) := by decide +kernel
theorem dX7_restore_40 : decode cX7_restore 40 = .ok (.iload_n 1, 1) := by decide +kernel
theorem dX7_restore_41 : decode cX7_restore 41 = .ok (.aload_n 0, 1) := by decide +kernel
theorem dX7_restore_42 : decode cX7_restore 42 = .ok (.getfield 16, 3) := by decide +kernel
theorem dX7_restore_45 : decode cX7_restore 45 = .ok (.invokestatic 279, 3) := by decide +kernel
theorem dX7_restore_48 : decode cX7_restore 48 = .ok (.istore_n 1, 1) := by decide +kernel
theorem dX7_restore_49 : decode cX7_restore 49 = .ok (.aload_n 0, 1) := by decide +kernel
theorem dX7_restore_50 : decode cX7_restore 50 = .ok (.getfield 83, 3) := by decide +kernel
theorem dX7_restore_53 : decode cX7_restore 53 = .ok (.iload_n 1, 1) := by decide +kernel
theorem dX7_restore_54 : decode cX7_restore 54 = .ok (.aload_n 0, 1) := by decide +kernel
theorem dX7_restore_55 : decode cX7_restore 55 = .ok (.getfield 19, 3) := by decide +kernel
theorem dX7_restore_58 : decode cX7_restore 58 = .ok (.invokestatic 279, 3) := by decide +kernel
theorem dX7_restore_61 : decode cX7_restore 61 = .ok (.istore_n 1, 1) := by decide +kernel
theorem dX7_restore_62 : decode cX7_restore 62 = .ok (.aload_n 0, 1) := by decide +kernel
theorem dX7_restore_63 : decode cX7_restore 63 = .ok (.getfield 83, 3) := by decide +kernel
theorem dX7_restore_66 : decode cX7_restore 66 = .ok (.iload_n 1, 1) := by decide +kernel
theorem dX7_restore_67 : decode cX7_restore 67 = .ok (.aload_n 0, 1) := by decide +kernel
theorem dX7_restore_68 : decode cX7_restore 68 = .ok (.getfield 22, 3) := by decide +kernel
theorem dX7_restore_71 : decode cX7_restore 71 = .ok (.invokestatic 279, 3) := by decide +kernel
theorem dX7_restore_74 : decode cX7_restore 74 = .ok (.istore_n 1, 1) := by decide +kernel
theorem dX7_restore_75 : decode cX7_restore 75 = .ok (.aload_n 0, 1) := by decide +kernel
theorem dX7_restore_76 : decode cX7_restore 76 = .ok (.getfield 83, 3) := by decide +kernel
theorem dX7_restore_79 : decode cX7_restore 79 = .ok (.iload_n 1, 1) := by decide +kernel
theorem dX7_restore_80 : decode cX7_restore 80 = .ok (.aload_n 0, 1) := by decide +kernel
theorem dX7_restore_81 : decode cX7_restore 81 = .ok (.getfield 25, 3) := by decide +kernel
theorem dX7_restore_84 : decode cX7_restore 84 = .ok (.invokestatic 279, 3) := by decide +kernel
theorem dX7_restore_87 : decode cX7_restore 87 = .ok (.istore_n 1, 1) := by decide +kernel
theorem dX7_restore_88 : decode cX7_restore 88 = .ok (.aload_n 0, 1) := by decide +kernel
theorem dX7_restore_89 : decode cX7_restore 89 = .ok (.getfield 83, 3) := by decide +kernel
theorem dX7_restore_92 : decode cX7_restore 92 = .ok (.iload_n 1, 1) := by decide +kernel
theorem dX7_restore_93 : decode cX7_restore 93 = .ok (.aload_n 0, 1) := by decide +kernel
theorem dX7_restore_94 : decode cX7_restore 94 = .ok (.getfield 64, 3) := by decide +kernel
theorem dX7_restore_97 : decode cX7_restore 97 = .ok (.invokestatic 279, 3) := by decide +kernel
theorem dX7_restore_100 : decode cX7_restore 100 = .ok (.istore_n 1, 1) := by decide +kernel
theorem dX7_restore_101 : decode cX7_restore 101 = .ok (.aload_n 0, 1) := by decide +kernel
theorem dX7_restore_102 : decode cX7_restore 102 = .ok (.getfield 83, 3) := by decide +kernel
theorem dX7_restore_105 : decode cX7_restore 105 = .ok (.iload_n 1, 1) := by decide +kernel
theorem dX7_restore_106 : decode cX7_restore 106 = .ok (.aload_n 0, 1) := by decide +kernel
theorem dX7_restore_107 : decode cX7_restore 107 = .ok (.getfield 67, 3) := by decide +kernel
theorem dX7_restore_110 : decode cX7_restore 110 = .ok (.invokestatic 279, 3) := by decide +kernel
theorem dX7_restore_113 : decode cX7_restore 113 = .ok (.istore_n 1, 1) := by decide +kernel
theorem dX7_restore_114 : decode cX7_restore 114 = .ok (.aload_n 0, 1) := by decide +kernel
theorem dX7_restore_115 : decode cX7_restore 115 = .ok (.getfield 83, 3) := by decide +kernel
theorem dX7_restore_118 : decode cX7_restore 118 = .ok (.iload_n 1, 1) := by decide +kernel
theorem dX7_restore_119 : decode cX7_restore 119 = .ok (.aload_n 0, 1) := by decide +kernel
theorem dX7_restore_120 : decode cX7_restore 120 = .ok (.getfield 70, 3) := by decide +kernel
theorem dX7_restore_123 : decode cX7_restore 123 = .ok (.invokestatic 279, 3) := by decide +kernel
theorem dX7_restore_126 : decode cX7_restore 126 = .ok (.istore_n 1, 1) := by decide +kernel
theorem dX7_restore_127 : decode cX7_restore 127 = .ok (.aload_n 0, 1) := by decide +kernel
theorem dX7_restore_128 : decode cX7_restore 128 = .ok (.aload_n 0, 1) := by decide +kernel
theorem dX7_restore_129 : decode cX7_restore 129 = .ok (.getfield 83, 3) := by decide +kernel
theorem dX7_restore_132 : decode cX7_restore 132 = .ok (.iload_n 1, 1) := by decide +kernel
theorem dX7_restore_133 : decode cX7_restore 133 = .ok (.iaload, 1) := by decide +kernel
theorem dX7_restore_134 : decode cX7_restore 134 = .ok (.putfield 206, 3) := by decide +kernel
theorem dX7_restore_137 : decode cX7_restore 137 = .ok (.aload_n 0, 1) := by decide +kernel
theorem dX7_restore_138 : decode cX7_restore 138 = .ok (.aload_n 0, 1) := by decide +kernel
theorem dX7_restore_139 : decode cX7_restore 139 = .ok (.getfield 83, 3) := by decide +kernel
theorem dX7_restore_142 : decode cX7_restore 142 = .ok (.iload_n 1, 1) := by decide +kernel
theorem dX7_restore_143 : decode cX7_restore 143 = .ok (.iconst 1, 1) := by decide +kernel
theorem dX7_restore_144 : decode cX7_restore 144 = .ok (.iadd, 1) := by decide +kernel
theorem dX7_restore_145 : decode cX7_restore 145 = .ok (.iaload, 1) := by decide +kernel
theorem dX7_restore_146 : decode cX7_restore 146 = .ok (.putfield 218, 3) := by decide +kernel
theorem dX7_restore_149 : decode cX7_restore 149 = .ok (.iconst 1, 1) := by decide +kernel
theorem dX7_restore_150 : decode cX7_restore 150 = .ok (.ireturn, 1) := by decide +kernel
abbrev W_X7_restore (cyI cyJ cyO : ClassId) (h_o a_o_sets a_o_ringFar a_o_ringTone a_o_currents a_o_warmths a_o_depths a_o_tape a_o_readFar a_o_readTone a_o_readSea a_o_code a_o_cellAt a_o_courseAt a_o_paceAt a_o_turnsAt a_o_slowAt a_o_fuelAt a_o_ringAt a_o_pieceParts a_o_dragCell a_o_dragBy a_o_sums a_o_shares a_o_keptFar a_o_image a_o_lanes a_o_sizes a_o_items a_o_movedItems : Nat) (o_taped : Int32) (o_at : Int32) (o_wrong : Int32) (o_level : Int32) (o_noRings : Int32) (o_noTones : Int32) (o_noFuel : Int32) (o_pieces : Int32) (o_drags : Int32) (o_all : Int64) (o_noPieces : Int32) (o_noDrags : Int32) (o_kept : Int32) (o_sets : Nat → Int32) (o_ringFar : Nat → Int32) (o_ringTone : Nat → Int32) (o_currents : Nat → Int32) (o_warmths : Nat → Int32) (o_depths : Nat → Int32) (o_pieceParts : Nat → Int32) (o_dragCell : Nat → Int32) (o_dragBy : Nat → Int32) (o_image : Nat → Int32) : va_W := [(h_o, .inr (7, [.ref a_o_sets, .ref a_o_ringFar, .ref a_o_ringTone, .ref a_o_currents, .ref a_o_warmths, .ref a_o_depths, .ref a_o_tape, .int o_taped, .int o_at, .int o_wrong, .ref a_o_readFar, .ref a_o_readTone, .ref a_o_readSea, .ref a_o_code, .ref a_o_cellAt, .ref a_o_courseAt, .ref a_o_paceAt, .ref a_o_turnsAt, .ref a_o_slowAt, .ref a_o_fuelAt, .ref a_o_ringAt, .int o_level, .int o_noRings, .int o_noTones, .int o_noFuel, .int o_pieces, .ref a_o_pieceParts, .int o_drags, .ref a_o_dragCell, .ref a_o_dragBy, .ref a_o_sums, .long o_all, .int o_noPieces, .int o_noDrags, .ref a_o_shares, .ref a_o_keptFar, .ref a_o_image, .int o_kept, .ref a_o_lanes, .ref a_o_sizes, .ref a_o_items, .ref a_o_movedItems])), (a_o_sets, .inl (cyI, 8, .inl o_sets)), (a_o_ringFar, .inl (cyI, 7, .inl o_ringFar)), (a_o_ringTone, .inl (cyI, 7, .inl o_ringTone)), (a_o_currents, .inl (cyI, 200, .inl o_currents)), (a_o_warmths, .inl (cyI, 200, .inl o_warmths)), (a_o_depths, .inl (cyI, 100, .inl o_depths)), (a_o_pieceParts, .inl (cyI, 20, .inl o_pieceParts)), (a_o_dragCell, .inl (cyI, 6, .inl o_dragCell)), (a_o_dragBy, .inl (cyI, 6, .inl o_dragBy)), (a_o_image, .inl (cyI, 570, .inl o_image))]
def f_X7_restore (o_pieces : Int32) (o_drags : Int32) (o_kept : Int32) (o_sets : Nat → Int32) (o_ringFar : Nat → Int32) (o_ringTone : Nat → Int32) (o_currents : Nat → Int32) (o_warmths : Nat → Int32) (o_depths : Nat → Int32) (o_pieceParts : Nat → Int32) (o_dragCell : Nat → Int32) (o_dragBy : Nat → Int32) (o_image : Nat → Int32) : Option (Int32 × Int32 × Int32 × (Nat → Int32) × (Nat → Int32) × (Nat → Int32) × (Nat → Int32) × (Nat → Int32) × (Nat → Int32) × (Nat → Int32) × (Nat → Int32) × (Nat → Int32)) :=
  if o_kept = 0 then
    some ((-4), o_pieces, o_drags, o_sets, o_ringFar, o_ringTone, o_currents, o_warmths, o_depths, o_pieceParts, o_dragCell, o_dragBy)
  else
    bd2 (f_X7_gives 570 8 0 o_image o_sets) fun r_1 w_2 =>
    bd2 (f_X7_gives 570 7 r_1 o_image o_ringFar) fun r_3 w_4 =>
    bd2 (f_X7_gives 570 7 r_3 o_image o_ringTone) fun r_5 w_6 =>
    bd2 (f_X7_gives 570 200 r_5 o_image o_currents) fun r_7 w_8 =>
    bd2 (f_X7_gives 570 200 r_7 o_image o_warmths) fun r_9 w_10 =>
    bd2 (f_X7_gives 570 100 r_9 o_image o_depths) fun r_11 w_12 =>
    bd2 (f_X7_gives 570 20 r_11 o_image o_pieceParts) fun r_13 w_14 =>
    bd2 (f_X7_gives 570 6 r_13 o_image o_dragCell) fun r_15 w_16 =>
    bd2 (f_X7_gives 570 6 r_15 o_image o_dragBy) fun r_17 w_18 =>
    chk (¬ (r_17 < 0 ∨ 570 ≤ r_17.toNatClampNeg)) <|
    nm (o_image r_17.toNatClampNeg) fun x_19 =>
    chk (¬ (r_17 + 1 < 0 ∨ 570 ≤ (r_17 + 1).toNatClampNeg)) <|
    nm (o_image (r_17 + 1).toNatClampNeg) fun x_20 =>
    some (1, x_19, x_20, w_2, w_4, w_6, w_8, w_10, w_12, w_14, w_16, w_18)
abbrev rm_X7_restore : Room := { frames := 1, cells := 0, slots := 0, locals := 23 }
set_option maxRecDepth 100000 in
set_option maxHeartbeats 4000000 in
theorem c_X7_restore (l : Launch) (dC : Nat → ClassId) (dI : Nat → Nat → Nat) (cyI cyJ cyO : ClassId) (sz : Nat) (h_o a_o_sets a_o_ringFar a_o_ringTone a_o_currents a_o_warmths a_o_depths a_o_tape a_o_readFar a_o_readTone a_o_readSea a_o_code a_o_cellAt a_o_courseAt a_o_paceAt a_o_turnsAt a_o_slowAt a_o_fuelAt a_o_ringAt a_o_pieceParts a_o_dragCell a_o_dragBy a_o_sums a_o_shares a_o_keptFar a_o_image a_o_lanes a_o_sizes a_o_items a_o_movedItems : Nat) (o_taped : Int32) (o_at : Int32) (o_wrong : Int32) (o_level : Int32) (o_noRings : Int32) (o_noTones : Int32) (o_noFuel : Int32) (o_pieces : Int32) (o_drags : Int32) (o_all : Int64) (o_noPieces : Int32) (o_noDrags : Int32) (o_kept : Int32) (o_sets : Nat → Int32) (o_ringFar : Nat → Int32) (o_ringTone : Nat → Int32) (o_currents : Nat → Int32) (o_warmths : Nat → Int32) (o_depths : Nat → Int32) (o_pieceParts : Nat → Int32) (o_dragCell : Nat → Int32) (o_dragBy : Nat → Int32) (o_image : Nat → Int32) (post : (Int32 × Int32 × Int32 × (Nat → Int32) × (Nat → Int32) × (Nat → Int32) × (Nat → Int32) × (Nat → Int32) × (Nat → Int32) × (Nat → Int32) × (Nat → Int32) × (Nat → Int32)) → Prop) (hf : okP (f_X7_restore o_pieces o_drags o_kept o_sets o_ringFar o_ringTone o_currents o_warmths o_depths o_pieceParts o_dragCell o_dragBy o_image) post) : Ci l (dC, dI) (tyL cyI cyJ cyO) yX7_restore wsX7_restore rm_X7_restore [.ref h_o] sz (W_X7_restore cyI cyJ cyO h_o a_o_sets a_o_ringFar a_o_ringTone a_o_currents a_o_warmths a_o_depths a_o_tape a_o_readFar a_o_readTone a_o_readSea a_o_code a_o_cellAt a_o_courseAt a_o_paceAt a_o_turnsAt a_o_slowAt a_o_fuelAt a_o_ringAt a_o_pieceParts a_o_dragCell a_o_dragBy a_o_sums a_o_shares a_o_keptFar a_o_image a_o_lanes a_o_sizes a_o_items a_o_movedItems o_taped o_at o_wrong o_level o_noRings o_noTones o_noFuel o_pieces o_drags o_all o_noPieces o_noDrags o_kept o_sets o_ringFar o_ringTone o_currents o_warmths o_depths o_pieceParts o_dragCell o_dragBy o_image) zN (fun r u => post (r, u)) (fun u => (W_X7_restore cyI cyJ cyO h_o a_o_sets a_o_ringFar a_o_ringTone a_o_currents a_o_warmths a_o_depths a_o_tape a_o_readFar a_o_readTone a_o_readSea a_o_code a_o_cellAt a_o_courseAt a_o_paceAt a_o_turnsAt a_o_slowAt a_o_fuelAt a_o_ringAt a_o_pieceParts a_o_dragCell a_o_dragBy a_o_sums a_o_shares a_o_keptFar a_o_image a_o_lanes a_o_sizes a_o_items a_o_movedItems o_taped o_at o_wrong o_level o_noRings o_noTones o_noFuel u.1 u.2.1 o_all o_noPieces o_noDrags o_kept u.2.2.1 u.2.2.2.1 u.2.2.2.2.1 u.2.2.2.2.2.1 u.2.2.2.2.2.2.1 u.2.2.2.2.2.2.2.1 u.2.2.2.2.2.2.2.2.1 u.2.2.2.2.2.2.2.2.2.1 u.2.2.2.2.2.2.2.2.2.2 o_image)) := by
  refine Met.ofW (cc := cX7_restore) (maxL := 2) (ret := (some .int)) (by decide) rfl ?_
  intro p e s m args below meth c s₁ B hml hv
  obtain ⟨rfl, hsz, hP, hK, hD0, hZ⟩ := hv
  have hx := B.exec
  have hb := B.bytes
  have hr := B.returns
  have hts := atoms_spec (ws := wsX7_restore) B.pre
  have hown : s.vm.findClass RX7 = some m.cls := findClass_of_methodNamed B.named
  have hlocks := B.notSynchronized
  subst hsz
  have hD := hD0.self (sz := s.heap.size)
  generalize hAe : va_A (W_X7_restore cyI cyJ cyO h_o a_o_sets a_o_ringFar a_o_ringTone a_o_currents a_o_warmths a_o_depths a_o_tape a_o_readFar a_o_readTone a_o_readSea a_o_code a_o_cellAt a_o_courseAt a_o_paceAt a_o_turnsAt a_o_slowAt a_o_fuelAt a_o_ringAt a_o_pieceParts a_o_dragCell a_o_dragBy a_o_sums a_o_shares a_o_keptFar a_o_image a_o_lanes a_o_sizes a_o_items a_o_movedItems o_taped o_at o_wrong o_level o_noRings o_noTones o_noFuel o_pieces o_drags o_all o_noPieces o_noDrags o_kept o_sets o_ringFar o_ringTone o_currents o_warmths o_depths o_pieceParts o_dragCell o_dragBy o_image) s.heap.size = A at hD hZ ⊢
  have hA : ∀ q : Nat, s.heap.size ≤ q → A q := fun q h => by rw [← hAe]; exact Or.inr h
  clear hAe hD0
  have hS : va_S A s.heap s.heap [] := va_S.rf
  have hl := lv_entry ([.ref h_o]) (n := 2) (Nat.le_of_ble_eq_true rfl)
  rw [lg_entry_eq]
  generalize (lg_sl ([.ref h_o]) ++ List.replicate (2 - (lg_sl ([.ref h_o])).length) Slot.unset).toArray = ls at hl ⊢
  have hl : lv_has ls 2 [(0, .ref h_o)] := hl
  refine kW (fun Q hQ => ?_)
  have hq0 := hts _ (List.mem_cons_of_mem _ q_743)
  have hi7 : ∀ w ∈ u_ws RX7 TX7 42, w ∈ wsX7_restore := fun w h => List.mem_cons_of_mem _ (inX7 w h)
  have hq2 := hts _ (List.mem_cons_of_mem _ q_742)
  have hq3 := hts _ (List.mem_cons_of_mem _ q_706)
  have hq4 := hts _ (List.mem_cons_of_mem _ q_707)
  have hq5 := hts _ (List.mem_cons_of_mem _ q_708)
  have hq6 := hts _ (List.mem_cons_of_mem _ q_709)
  have hq7 := hts _ (List.mem_cons_of_mem _ q_710)
  have hq8 := hts _ (List.mem_cons_of_mem _ q_711)
  have hq9 := hts _ (List.mem_cons_of_mem _ q_732)
  have hq10 := hts _ (List.mem_cons_of_mem _ q_734)
  have hq11 := hts _ (List.mem_cons_of_mem _ q_735)
  have hq12 := hts _ (List.mem_cons_of_mem _ q_731)
  have hq13 := hts _ (List.mem_cons_of_mem _ q_733)
  have hw := hf
  unfold f_X7_restore at hw
  have hP : va_P (dC, dI) vwCl (W_X7_restore cyI cyJ cyO h_o a_o_sets a_o_ringFar a_o_ringTone a_o_currents a_o_warmths a_o_depths a_o_tape a_o_readFar a_o_readTone a_o_readSea a_o_code a_o_cellAt a_o_courseAt a_o_paceAt a_o_turnsAt a_o_slowAt a_o_fuelAt a_o_ringAt a_o_pieceParts a_o_dragCell a_o_dragBy a_o_sums a_o_shares a_o_keptFar a_o_image a_o_lanes a_o_sizes a_o_items a_o_movedItems o_taped o_at o_wrong o_level o_noRings o_noTones o_noFuel o_pieces o_drags o_all o_noPieces o_noDrags o_kept o_sets o_ringFar o_ringTone o_currents o_warmths o_depths o_pieceParts o_dragCell o_dragBy o_image) s.heap := hP
  obtain ⟨H, hH⟩ : ∃ H, H = s.heap := ⟨_, rfl⟩
  obtain ⟨locs, hlo⟩ : ∃ x : List Loc, x = [] := ⟨_, rfl⟩
  have hP : va_P (dC, dI) vwCl (W_X7_restore cyI cyJ cyO h_o a_o_sets a_o_ringFar a_o_ringTone a_o_currents a_o_warmths a_o_depths a_o_tape a_o_readFar a_o_readTone a_o_readSea a_o_code a_o_cellAt a_o_courseAt a_o_paceAt a_o_turnsAt a_o_slowAt a_o_fuelAt a_o_ringAt a_o_pieceParts a_o_dragCell a_o_dragBy a_o_sums a_o_shares a_o_keptFar a_o_image a_o_lanes a_o_sizes a_o_items a_o_movedItems o_taped o_at o_wrong o_level o_noRings o_noTones o_noFuel o_pieces o_drags o_all o_noPieces o_noDrags o_kept o_sets o_ringFar o_ringTone o_currents o_warmths o_depths o_pieceParts o_dragCell o_dragBy o_image) H := by rw [hH]; exact hP
  have hS : va_S A s.heap H locs := by rw [hH, hlo]; exact hS
  refine kH hH hlo ?_
  clear hH hlo
  refine lv_aload_n hx hb dX7_restore_0 rfl (lv_at hl 0 rfl) ?_
  refine va_get (D := (dC, dI)) (ci := 7) (v := .int o_kept) (C := RX7) (T := TX7) (N := 42) hx hb hts hi7 hown hK hP 0 rfl rfl 37 (by decide) hq0 (fun _ h9 => h9) rfl dX7_restore_1 ?_
  refine lv_if_ne (tgt := 10) hx hb dX7_restore_4 (by decide) (fun c_1 => ?_) (fun c_1 => ?_)
  · replace hw := okF hw c_1
    clear c_1
    refine lv_aload_n hx hb dX7_restore_10 rfl (lv_at hl 0 rfl) ?_
    refine va_get (D := (dC, dI)) (ci := 7) (v := .ref a_o_image) (C := RX7) (T := TX7) (N := 42) hx hb hts hi7 hown hK hP 0 rfl rfl 36 (by decide) hq2 (fun _ h9 => h9) rfl dX7_restore_11 ?_
    refine lv_iconst (v := 0) hx hb dX7_restore_14 (by decide) ?_
    refine lv_aload_n hx hb dX7_restore_15 rfl (lv_at hl 0 rfl) ?_
    refine va_get (D := (dC, dI)) (ci := 7) (v := .ref a_o_sets) (C := RX7) (T := TX7) (N := 42) hx hb hts hi7 hown hK hP 0 rfl rfl 0 (by decide) hq3 (fun _ h9 => h9) rfl dX7_restore_16 ?_
    have hPc := hP.sub (ws' := (W_X7_gives cyI cyJ cyO 570 8 a_o_image a_o_sets o_image o_sets)) [10, 1] rfl
    have hDc := hD.sub (ws' := (W_X7_gives cyI cyJ cyO 570 8 a_o_image a_o_sets o_image o_sets)) [10, 1] (by decide +kernel) rfl
    have hFc := va_free (wc := (W_X7_gives cyI cyJ cyO 570 8 a_o_image a_o_sets o_image o_sets)) hD hS hA [10, 1] rfl
    refine kc_i (wr := [(h_o, .inr (7, [.ref a_o_sets, .ref a_o_ringFar, .ref a_o_ringTone, .ref a_o_currents, .ref a_o_warmths, .ref a_o_depths, .ref a_o_tape, .int o_taped, .int o_at, .int o_wrong, .ref a_o_readFar, .ref a_o_readTone, .ref a_o_readSea, .ref a_o_code, .ref a_o_cellAt, .ref a_o_courseAt, .ref a_o_paceAt, .ref a_o_turnsAt, .ref a_o_slowAt, .ref a_o_fuelAt, .ref a_o_ringAt, .int o_level, .int o_noRings, .int o_noTones, .int o_noFuel, .int o_pieces, .ref a_o_pieceParts, .int o_drags, .ref a_o_dragCell, .ref a_o_dragBy, .ref a_o_sums, .long o_all, .int o_noPieces, .int o_noDrags, .ref a_o_shares, .ref a_o_keptFar, .ref a_o_image, .int o_kept, .ref a_o_lanes, .ref a_o_sizes, .ref a_o_items, .ref a_o_movedItems])), (a_o_ringFar, .inl (cyI, 7, .inl o_ringFar)), (a_o_ringTone, .inl (cyI, 7, .inl o_ringTone)), (a_o_currents, .inl (cyI, 200, .inl o_currents)), (a_o_warmths, .inl (cyI, 200, .inl o_warmths)), (a_o_depths, .inl (cyI, 100, .inl o_depths)), (a_o_pieceParts, .inl (cyI, 20, .inl o_pieceParts)), (a_o_dragCell, .inl (cyI, 6, .inl o_dragCell)), (a_o_dragBy, .inl (cyI, 6, .inl o_dragBy))]) (va_runS (As := [.ref a_o_image, .int 0, .ref a_o_sets]) (rest := []) ⟨hx, hb, hml, hown, hts⟩ (c_X7_gives l dC dI cyI cyJ cyO H.size 570 8 a_o_image a_o_sets o_image o_sets 0 _ (okb2 hw)) (va_cwS 3 hts (gdS (fun w h => List.mem_cons_of_mem _ h) q_1072 q_1073 q_8 q_1074) rfl rfl rfl (by decide +kernel) ⟨Nat.le_of_ble_eq_true rfl, Nat.le_of_ble_eq_true rfl⟩) (kpre zN_ok hK hPc hDc trivial hS hFc) rfl rfl hl.1 rfl (lv_room (Nat.le_of_ble_eq_true rfl)) dX7_restore_19 ⟨Nat.le_of_ble_eq_true rfl, Nat.le_of_ble_eq_true rfl⟩) hP hD hS hFc [10, 1] [0, 2, 3, 4, 5, 6, 7, 8, 9] rfl rfl (by decide +kernel) (by decide +kernel) (fun r_2 w_3 H locs hw hP hD hS => ?_)
    try dsimp only at hw
    have hP : va_P (dC, dI) vwCl (W_X7_restore cyI cyJ cyO h_o a_o_sets a_o_ringFar a_o_ringTone a_o_currents a_o_warmths a_o_depths a_o_tape a_o_readFar a_o_readTone a_o_readSea a_o_code a_o_cellAt a_o_courseAt a_o_paceAt a_o_turnsAt a_o_slowAt a_o_fuelAt a_o_ringAt a_o_pieceParts a_o_dragCell a_o_dragBy a_o_sums a_o_shares a_o_keptFar a_o_image a_o_lanes a_o_sizes a_o_items a_o_movedItems o_taped o_at o_wrong o_level o_noRings o_noTones o_noFuel o_pieces o_drags o_all o_noPieces o_noDrags o_kept w_3 o_ringFar o_ringTone o_currents o_warmths o_depths o_pieceParts o_dragCell o_dragBy o_image) H := hP.sub [0, 10, 1, 2, 3, 4, 5, 6, 7, 8, 9] rfl
    have hD : va_D A (W_X7_restore cyI cyJ cyO h_o a_o_sets a_o_ringFar a_o_ringTone a_o_currents a_o_warmths a_o_depths a_o_tape a_o_readFar a_o_readTone a_o_readSea a_o_code a_o_cellAt a_o_courseAt a_o_paceAt a_o_turnsAt a_o_slowAt a_o_fuelAt a_o_ringAt a_o_pieceParts a_o_dragCell a_o_dragBy a_o_sums a_o_shares a_o_keptFar a_o_image a_o_lanes a_o_sizes a_o_items a_o_movedItems o_taped o_at o_wrong o_level o_noRings o_noTones o_noFuel o_pieces o_drags o_all o_noPieces o_noDrags o_kept w_3 o_ringFar o_ringTone o_currents o_warmths o_depths o_pieceParts o_dragCell o_dragBy o_image) := hD.sub [0, 10, 1, 2, 3, 4, 5, 6, 7, 8, 9] (by decide +kernel) rfl
    clear hPc hDc hFc
    refine lv_istore_n (lv' := [(1, .int r_2), (0, .ref h_o)]) hx hb dX7_restore_22 rfl hl (by decide) rfl (fun ls hl => ?_)
    refine lv_aload_n hx hb dX7_restore_23 rfl (lv_at hl 1 rfl) ?_
    refine va_get (D := (dC, dI)) (ci := 7) (v := .ref a_o_image) (C := RX7) (T := TX7) (N := 42) hx hb hts hi7 hown hK hP 0 rfl rfl 36 (by decide) hq2 (fun _ h9 => h9) rfl dX7_restore_24 ?_
    refine lv_iload_n hx hb dX7_restore_27 rfl (lv_at hl 0 rfl) ?_
    refine lv_aload_n hx hb dX7_restore_28 rfl (lv_at hl 1 rfl) ?_
    refine va_get (D := (dC, dI)) (ci := 7) (v := .ref a_o_ringFar) (C := RX7) (T := TX7) (N := 42) hx hb hts hi7 hown hK hP 0 rfl rfl 1 (by decide) hq4 (fun _ h9 => h9) rfl dX7_restore_29 ?_
    have hPc := hP.sub (ws' := (W_X7_gives cyI cyJ cyO 570 7 a_o_image a_o_ringFar o_image o_ringFar)) [10, 2] rfl
    have hDc := hD.sub (ws' := (W_X7_gives cyI cyJ cyO 570 7 a_o_image a_o_ringFar o_image o_ringFar)) [10, 2] (by decide +kernel) rfl
    have hFc := va_free (wc := (W_X7_gives cyI cyJ cyO 570 7 a_o_image a_o_ringFar o_image o_ringFar)) hD hS hA [10, 2] rfl
    refine kc_i (wr := [(h_o, .inr (7, [.ref a_o_sets, .ref a_o_ringFar, .ref a_o_ringTone, .ref a_o_currents, .ref a_o_warmths, .ref a_o_depths, .ref a_o_tape, .int o_taped, .int o_at, .int o_wrong, .ref a_o_readFar, .ref a_o_readTone, .ref a_o_readSea, .ref a_o_code, .ref a_o_cellAt, .ref a_o_courseAt, .ref a_o_paceAt, .ref a_o_turnsAt, .ref a_o_slowAt, .ref a_o_fuelAt, .ref a_o_ringAt, .int o_level, .int o_noRings, .int o_noTones, .int o_noFuel, .int o_pieces, .ref a_o_pieceParts, .int o_drags, .ref a_o_dragCell, .ref a_o_dragBy, .ref a_o_sums, .long o_all, .int o_noPieces, .int o_noDrags, .ref a_o_shares, .ref a_o_keptFar, .ref a_o_image, .int o_kept, .ref a_o_lanes, .ref a_o_sizes, .ref a_o_items, .ref a_o_movedItems])), (a_o_sets, .inl (cyI, 8, .inl w_3)), (a_o_ringTone, .inl (cyI, 7, .inl o_ringTone)), (a_o_currents, .inl (cyI, 200, .inl o_currents)), (a_o_warmths, .inl (cyI, 200, .inl o_warmths)), (a_o_depths, .inl (cyI, 100, .inl o_depths)), (a_o_pieceParts, .inl (cyI, 20, .inl o_pieceParts)), (a_o_dragCell, .inl (cyI, 6, .inl o_dragCell)), (a_o_dragBy, .inl (cyI, 6, .inl o_dragBy))]) (va_runS (As := [.ref a_o_image, .int r_2, .ref a_o_ringFar]) (rest := []) ⟨hx, hb, hml, hown, hts⟩ (c_X7_gives l dC dI cyI cyJ cyO H.size 570 7 a_o_image a_o_ringFar o_image o_ringFar r_2 _ (okb2 hw)) (va_cwS 3 hts (gdS (fun w h => List.mem_cons_of_mem _ h) q_1072 q_1073 q_8 q_1074) rfl rfl rfl (by decide +kernel) ⟨Nat.le_of_ble_eq_true rfl, Nat.le_of_ble_eq_true rfl⟩) (kpre zN_ok hK hPc hDc trivial hS hFc) rfl rfl hl.1 rfl (lv_room (Nat.le_of_ble_eq_true rfl)) dX7_restore_32 ⟨Nat.le_of_ble_eq_true rfl, Nat.le_of_ble_eq_true rfl⟩) hP hD hS hFc [10, 2] [0, 1, 3, 4, 5, 6, 7, 8, 9] rfl rfl (by decide +kernel) (by decide +kernel) (fun r_4 w_5 H locs hw hP hD hS => ?_)
    try dsimp only at hw
    have hP : va_P (dC, dI) vwCl (W_X7_restore cyI cyJ cyO h_o a_o_sets a_o_ringFar a_o_ringTone a_o_currents a_o_warmths a_o_depths a_o_tape a_o_readFar a_o_readTone a_o_readSea a_o_code a_o_cellAt a_o_courseAt a_o_paceAt a_o_turnsAt a_o_slowAt a_o_fuelAt a_o_ringAt a_o_pieceParts a_o_dragCell a_o_dragBy a_o_sums a_o_shares a_o_keptFar a_o_image a_o_lanes a_o_sizes a_o_items a_o_movedItems o_taped o_at o_wrong o_level o_noRings o_noTones o_noFuel o_pieces o_drags o_all o_noPieces o_noDrags o_kept w_3 w_5 o_ringTone o_currents o_warmths o_depths o_pieceParts o_dragCell o_dragBy o_image) H := hP.sub [0, 1, 10, 2, 3, 4, 5, 6, 7, 8, 9] rfl
    have hD : va_D A (W_X7_restore cyI cyJ cyO h_o a_o_sets a_o_ringFar a_o_ringTone a_o_currents a_o_warmths a_o_depths a_o_tape a_o_readFar a_o_readTone a_o_readSea a_o_code a_o_cellAt a_o_courseAt a_o_paceAt a_o_turnsAt a_o_slowAt a_o_fuelAt a_o_ringAt a_o_pieceParts a_o_dragCell a_o_dragBy a_o_sums a_o_shares a_o_keptFar a_o_image a_o_lanes a_o_sizes a_o_items a_o_movedItems o_taped o_at o_wrong o_level o_noRings o_noTones o_noFuel o_pieces o_drags o_all o_noPieces o_noDrags o_kept w_3 w_5 o_ringTone o_currents o_warmths o_depths o_pieceParts o_dragCell o_dragBy o_image) := hD.sub [0, 1, 10, 2, 3, 4, 5, 6, 7, 8, 9] (by decide +kernel) rfl
    clear hPc hDc hFc
    refine lv_istore_n (lv' := [(1, .int r_4), (0, .ref h_o)]) hx hb dX7_restore_35 rfl hl (by decide) rfl (fun ls hl => ?_)
    refine lv_aload_n hx hb dX7_restore_36 rfl (lv_at hl 1 rfl) ?_
    refine va_get (D := (dC, dI)) (ci := 7) (v := .ref a_o_image) (C := RX7) (T := TX7) (N := 42) hx hb hts hi7 hown hK hP 0 rfl rfl 36 (by decide) hq2 (fun _ h9 => h9) rfl dX7_restore_37 ?_
    refine lv_iload_n hx hb dX7_restore_40 rfl (lv_at hl 0 rfl) ?_
    refine lv_aload_n hx hb dX7_restore_41 rfl (lv_at hl 1 rfl) ?_
    refine va_get (D := (dC, dI)) (ci := 7) (v := .ref a_o_ringTone) (C := RX7) (T := TX7) (N := 42) hx hb hts hi7 hown hK hP 0 rfl rfl 2 (by decide) hq5 (fun _ h9 => h9) rfl dX7_restore_42 ?_
    have hPc := hP.sub (ws' := (W_X7_gives cyI cyJ cyO 570 7 a_o_image a_o_ringTone o_image o_ringTone)) [10, 3] rfl
    have hDc := hD.sub (ws' := (W_X7_gives cyI cyJ cyO 570 7 a_o_image a_o_ringTone o_image o_ringTone)) [10, 3] (by decide +kernel) rfl
    have hFc := va_free (wc := (W_X7_gives cyI cyJ cyO 570 7 a_o_image a_o_ringTone o_image o_ringTone)) hD hS hA [10, 3] rfl
    refine kc_i (wr := [(h_o, .inr (7, [.ref a_o_sets, .ref a_o_ringFar, .ref a_o_ringTone, .ref a_o_currents, .ref a_o_warmths, .ref a_o_depths, .ref a_o_tape, .int o_taped, .int o_at, .int o_wrong, .ref a_o_readFar, .ref a_o_readTone, .ref a_o_readSea, .ref a_o_code, .ref a_o_cellAt, .ref a_o_courseAt, .ref a_o_paceAt, .ref a_o_turnsAt, .ref a_o_slowAt, .ref a_o_fuelAt, .ref a_o_ringAt, .int o_level, .int o_noRings, .int o_noTones, .int o_noFuel, .int o_pieces, .ref a_o_pieceParts, .int o_drags, .ref a_o_dragCell, .ref a_o_dragBy, .ref a_o_sums, .long o_all, .int o_noPieces, .int o_noDrags, .ref a_o_shares, .ref a_o_keptFar, .ref a_o_image, .int o_kept, .ref a_o_lanes, .ref a_o_sizes, .ref a_o_items, .ref a_o_movedItems])), (a_o_sets, .inl (cyI, 8, .inl w_3)), (a_o_ringFar, .inl (cyI, 7, .inl w_5)), (a_o_currents, .inl (cyI, 200, .inl o_currents)), (a_o_warmths, .inl (cyI, 200, .inl o_warmths)), (a_o_depths, .inl (cyI, 100, .inl o_depths)), (a_o_pieceParts, .inl (cyI, 20, .inl o_pieceParts)), (a_o_dragCell, .inl (cyI, 6, .inl o_dragCell)), (a_o_dragBy, .inl (cyI, 6, .inl o_dragBy))]) (va_runS (As := [.ref a_o_image, .int r_4, .ref a_o_ringTone]) (rest := []) ⟨hx, hb, hml, hown, hts⟩ (c_X7_gives l dC dI cyI cyJ cyO H.size 570 7 a_o_image a_o_ringTone o_image o_ringTone r_4 _ (okb2 hw)) (va_cwS 3 hts (gdS (fun w h => List.mem_cons_of_mem _ h) q_1072 q_1073 q_8 q_1074) rfl rfl rfl (by decide +kernel) ⟨Nat.le_of_ble_eq_true rfl, Nat.le_of_ble_eq_true rfl⟩) (kpre zN_ok hK hPc hDc trivial hS hFc) rfl rfl hl.1 rfl (lv_room (Nat.le_of_ble_eq_true rfl)) dX7_restore_45 ⟨Nat.le_of_ble_eq_true rfl, Nat.le_of_ble_eq_true rfl⟩) hP hD hS hFc [10, 3] [0, 1, 2, 4, 5, 6, 7, 8, 9] rfl rfl (by decide +kernel) (by decide +kernel) (fun r_6 w_7 H locs hw hP hD hS => ?_)
    try dsimp only at hw
    have hP : va_P (dC, dI) vwCl (W_X7_restore cyI cyJ cyO h_o a_o_sets a_o_ringFar a_o_ringTone a_o_currents a_o_warmths a_o_depths a_o_tape a_o_readFar a_o_readTone a_o_readSea a_o_code a_o_cellAt a_o_courseAt a_o_paceAt a_o_turnsAt a_o_slowAt a_o_fuelAt a_o_ringAt a_o_pieceParts a_o_dragCell a_o_dragBy a_o_sums a_o_shares a_o_keptFar a_o_image a_o_lanes a_o_sizes a_o_items a_o_movedItems o_taped o_at o_wrong o_level o_noRings o_noTones o_noFuel o_pieces o_drags o_all o_noPieces o_noDrags o_kept w_3 w_5 w_7 o_currents o_warmths o_depths o_pieceParts o_dragCell o_dragBy o_image) H := hP.sub [0, 1, 2, 10, 3, 4, 5, 6, 7, 8, 9] rfl
    have hD : va_D A (W_X7_restore cyI cyJ cyO h_o a_o_sets a_o_ringFar a_o_ringTone a_o_currents a_o_warmths a_o_depths a_o_tape a_o_readFar a_o_readTone a_o_readSea a_o_code a_o_cellAt a_o_courseAt a_o_paceAt a_o_turnsAt a_o_slowAt a_o_fuelAt a_o_ringAt a_o_pieceParts a_o_dragCell a_o_dragBy a_o_sums a_o_shares a_o_keptFar a_o_image a_o_lanes a_o_sizes a_o_items a_o_movedItems o_taped o_at o_wrong o_level o_noRings o_noTones o_noFuel o_pieces o_drags o_all o_noPieces o_noDrags o_kept w_3 w_5 w_7 o_currents o_warmths o_depths o_pieceParts o_dragCell o_dragBy o_image) := hD.sub [0, 1, 2, 10, 3, 4, 5, 6, 7, 8, 9] (by decide +kernel) rfl
    clear hPc hDc hFc
    refine lv_istore_n (lv' := [(1, .int r_6), (0, .ref h_o)]) hx hb dX7_restore_48 rfl hl (by decide) rfl (fun ls hl => ?_)
    refine lv_aload_n hx hb dX7_restore_49 rfl (lv_at hl 1 rfl) ?_
    refine va_get (D := (dC, dI)) (ci := 7) (v := .ref a_o_image) (C := RX7) (T := TX7) (N := 42) hx hb hts hi7 hown hK hP 0 rfl rfl 36 (by decide) hq2 (fun _ h9 => h9) rfl dX7_restore_50 ?_
    refine lv_iload_n hx hb dX7_restore_53 rfl (lv_at hl 0 rfl) ?_
    refine lv_aload_n hx hb dX7_restore_54 rfl (lv_at hl 1 rfl) ?_
    refine va_get (D := (dC, dI)) (ci := 7) (v := .ref a_o_currents) (C := RX7) (T := TX7) (N := 42) hx hb hts hi7 hown hK hP 0 rfl rfl 3 (by decide) hq6 (fun _ h9 => h9) rfl dX7_restore_55 ?_
    have hPc := hP.sub (ws' := (W_X7_gives cyI cyJ cyO 570 200 a_o_image a_o_currents o_image o_currents)) [10, 4] rfl
    have hDc := hD.sub (ws' := (W_X7_gives cyI cyJ cyO 570 200 a_o_image a_o_currents o_image o_currents)) [10, 4] (by decide +kernel) rfl
    have hFc := va_free (wc := (W_X7_gives cyI cyJ cyO 570 200 a_o_image a_o_currents o_image o_currents)) hD hS hA [10, 4] rfl
    refine kc_i (wr := [(h_o, .inr (7, [.ref a_o_sets, .ref a_o_ringFar, .ref a_o_ringTone, .ref a_o_currents, .ref a_o_warmths, .ref a_o_depths, .ref a_o_tape, .int o_taped, .int o_at, .int o_wrong, .ref a_o_readFar, .ref a_o_readTone, .ref a_o_readSea, .ref a_o_code, .ref a_o_cellAt, .ref a_o_courseAt, .ref a_o_paceAt, .ref a_o_turnsAt, .ref a_o_slowAt, .ref a_o_fuelAt, .ref a_o_ringAt, .int o_level, .int o_noRings, .int o_noTones, .int o_noFuel, .int o_pieces, .ref a_o_pieceParts, .int o_drags, .ref a_o_dragCell, .ref a_o_dragBy, .ref a_o_sums, .long o_all, .int o_noPieces, .int o_noDrags, .ref a_o_shares, .ref a_o_keptFar, .ref a_o_image, .int o_kept, .ref a_o_lanes, .ref a_o_sizes, .ref a_o_items, .ref a_o_movedItems])), (a_o_sets, .inl (cyI, 8, .inl w_3)), (a_o_ringFar, .inl (cyI, 7, .inl w_5)), (a_o_ringTone, .inl (cyI, 7, .inl w_7)), (a_o_warmths, .inl (cyI, 200, .inl o_warmths)), (a_o_depths, .inl (cyI, 100, .inl o_depths)), (a_o_pieceParts, .inl (cyI, 20, .inl o_pieceParts)), (a_o_dragCell, .inl (cyI, 6, .inl o_dragCell)), (a_o_dragBy, .inl (cyI, 6, .inl o_dragBy))]) (va_runS (As := [.ref a_o_image, .int r_6, .ref a_o_currents]) (rest := []) ⟨hx, hb, hml, hown, hts⟩ (c_X7_gives l dC dI cyI cyJ cyO H.size 570 200 a_o_image a_o_currents o_image o_currents r_6 _ (okb2 hw)) (va_cwS 3 hts (gdS (fun w h => List.mem_cons_of_mem _ h) q_1072 q_1073 q_8 q_1074) rfl rfl rfl (by decide +kernel) ⟨Nat.le_of_ble_eq_true rfl, Nat.le_of_ble_eq_true rfl⟩) (kpre zN_ok hK hPc hDc trivial hS hFc) rfl rfl hl.1 rfl (lv_room (Nat.le_of_ble_eq_true rfl)) dX7_restore_58 ⟨Nat.le_of_ble_eq_true rfl, Nat.le_of_ble_eq_true rfl⟩) hP hD hS hFc [10, 4] [0, 1, 2, 3, 5, 6, 7, 8, 9] rfl rfl (by decide +kernel) (by decide +kernel) (fun r_8 w_9 H locs hw hP hD hS => ?_)
    try dsimp only at hw
    have hP : va_P (dC, dI) vwCl (W_X7_restore cyI cyJ cyO h_o a_o_sets a_o_ringFar a_o_ringTone a_o_currents a_o_warmths a_o_depths a_o_tape a_o_readFar a_o_readTone a_o_readSea a_o_code a_o_cellAt a_o_courseAt a_o_paceAt a_o_turnsAt a_o_slowAt a_o_fuelAt a_o_ringAt a_o_pieceParts a_o_dragCell a_o_dragBy a_o_sums a_o_shares a_o_keptFar a_o_image a_o_lanes a_o_sizes a_o_items a_o_movedItems o_taped o_at o_wrong o_level o_noRings o_noTones o_noFuel o_pieces o_drags o_all o_noPieces o_noDrags o_kept w_3 w_5 w_7 w_9 o_warmths o_depths o_pieceParts o_dragCell o_dragBy o_image) H := hP.sub [0, 1, 2, 3, 10, 4, 5, 6, 7, 8, 9] rfl
    have hD : va_D A (W_X7_restore cyI cyJ cyO h_o a_o_sets a_o_ringFar a_o_ringTone a_o_currents a_o_warmths a_o_depths a_o_tape a_o_readFar a_o_readTone a_o_readSea a_o_code a_o_cellAt a_o_courseAt a_o_paceAt a_o_turnsAt a_o_slowAt a_o_fuelAt a_o_ringAt a_o_pieceParts a_o_dragCell a_o_dragBy a_o_sums a_o_shares a_o_keptFar a_o_image a_o_lanes a_o_sizes a_o_items a_o_movedItems o_taped o_at o_wrong o_level o_noRings o_noTones o_noFuel o_pieces o_drags o_all o_noPieces o_noDrags o_kept w_3 w_5 w_7 w_9 o_warmths o_depths o_pieceParts o_dragCell o_dragBy o_image) := hD.sub [0, 1, 2, 3, 10, 4, 5, 6, 7, 8, 9] (by decide +kernel) rfl
    clear hPc hDc hFc
    refine lv_istore_n (lv' := [(1, .int r_8), (0, .ref h_o)]) hx hb dX7_restore_61 rfl hl (by decide) rfl (fun ls hl => ?_)
    refine lv_aload_n hx hb dX7_restore_62 rfl (lv_at hl 1 rfl) ?_
    refine va_get (D := (dC, dI)) (ci := 7) (v := .ref a_o_image) (C := RX7) (T := TX7) (N := 42) hx hb hts hi7 hown hK hP 0 rfl rfl 36 (by decide) hq2 (fun _ h9 => h9) rfl dX7_restore_63 ?_
    refine lv_iload_n hx hb dX7_restore_66 rfl (lv_at hl 0 rfl) ?_
    refine lv_aload_n hx hb dX7_restore_67 rfl (lv_at hl 1 rfl) ?_
    refine va_get (D := (dC, dI)) (ci := 7) (v := .ref a_o_warmths) (C := RX7) (T := TX7) (N := 42) hx hb hts hi7 hown hK hP 0 rfl rfl 4 (by decide) hq7 (fun _ h9 => h9) rfl dX7_restore_68 ?_
    have hPc := hP.sub (ws' := (W_X7_gives cyI cyJ cyO 570 200 a_o_image a_o_warmths o_image o_warmths)) [10, 5] rfl
    have hDc := hD.sub (ws' := (W_X7_gives cyI cyJ cyO 570 200 a_o_image a_o_warmths o_image o_warmths)) [10, 5] (by decide +kernel) rfl
    have hFc := va_free (wc := (W_X7_gives cyI cyJ cyO 570 200 a_o_image a_o_warmths o_image o_warmths)) hD hS hA [10, 5] rfl
    refine kc_i (wr := [(h_o, .inr (7, [.ref a_o_sets, .ref a_o_ringFar, .ref a_o_ringTone, .ref a_o_currents, .ref a_o_warmths, .ref a_o_depths, .ref a_o_tape, .int o_taped, .int o_at, .int o_wrong, .ref a_o_readFar, .ref a_o_readTone, .ref a_o_readSea, .ref a_o_code, .ref a_o_cellAt, .ref a_o_courseAt, .ref a_o_paceAt, .ref a_o_turnsAt, .ref a_o_slowAt, .ref a_o_fuelAt, .ref a_o_ringAt, .int o_level, .int o_noRings, .int o_noTones, .int o_noFuel, .int o_pieces, .ref a_o_pieceParts, .int o_drags, .ref a_o_dragCell, .ref a_o_dragBy, .ref a_o_sums, .long o_all, .int o_noPieces, .int o_noDrags, .ref a_o_shares, .ref a_o_keptFar, .ref a_o_image, .int o_kept, .ref a_o_lanes, .ref a_o_sizes, .ref a_o_items, .ref a_o_movedItems])), (a_o_sets, .inl (cyI, 8, .inl w_3)), (a_o_ringFar, .inl (cyI, 7, .inl w_5)), (a_o_ringTone, .inl (cyI, 7, .inl w_7)), (a_o_currents, .inl (cyI, 200, .inl w_9)), (a_o_depths, .inl (cyI, 100, .inl o_depths)), (a_o_pieceParts, .inl (cyI, 20, .inl o_pieceParts)), (a_o_dragCell, .inl (cyI, 6, .inl o_dragCell)), (a_o_dragBy, .inl (cyI, 6, .inl o_dragBy))]) (va_runS (As := [.ref a_o_image, .int r_8, .ref a_o_warmths]) (rest := []) ⟨hx, hb, hml, hown, hts⟩ (c_X7_gives l dC dI cyI cyJ cyO H.size 570 200 a_o_image a_o_warmths o_image o_warmths r_8 _ (okb2 hw)) (va_cwS 3 hts (gdS (fun w h => List.mem_cons_of_mem _ h) q_1072 q_1073 q_8 q_1074) rfl rfl rfl (by decide +kernel) ⟨Nat.le_of_ble_eq_true rfl, Nat.le_of_ble_eq_true rfl⟩) (kpre zN_ok hK hPc hDc trivial hS hFc) rfl rfl hl.1 rfl (lv_room (Nat.le_of_ble_eq_true rfl)) dX7_restore_71 ⟨Nat.le_of_ble_eq_true rfl, Nat.le_of_ble_eq_true rfl⟩) hP hD hS hFc [10, 5] [0, 1, 2, 3, 4, 6, 7, 8, 9] rfl rfl (by decide +kernel) (by decide +kernel) (fun r_10 w_11 H locs hw hP hD hS => ?_)
    try dsimp only at hw
    have hP : va_P (dC, dI) vwCl (W_X7_restore cyI cyJ cyO h_o a_o_sets a_o_ringFar a_o_ringTone a_o_currents a_o_warmths a_o_depths a_o_tape a_o_readFar a_o_readTone a_o_readSea a_o_code a_o_cellAt a_o_courseAt a_o_paceAt a_o_turnsAt a_o_slowAt a_o_fuelAt a_o_ringAt a_o_pieceParts a_o_dragCell a_o_dragBy a_o_sums a_o_shares a_o_keptFar a_o_image a_o_lanes a_o_sizes a_o_items a_o_movedItems o_taped o_at o_wrong o_level o_noRings o_noTones o_noFuel o_pieces o_drags o_all o_noPieces o_noDrags o_kept w_3 w_5 w_7 w_9 w_11 o_depths o_pieceParts o_dragCell o_dragBy o_image) H := hP.sub [0, 1, 2, 3, 4, 10, 5, 6, 7, 8, 9] rfl
    have hD : va_D A (W_X7_restore cyI cyJ cyO h_o a_o_sets a_o_ringFar a_o_ringTone a_o_currents a_o_warmths a_o_depths a_o_tape a_o_readFar a_o_readTone a_o_readSea a_o_code a_o_cellAt a_o_courseAt a_o_paceAt a_o_turnsAt a_o_slowAt a_o_fuelAt a_o_ringAt a_o_pieceParts a_o_dragCell a_o_dragBy a_o_sums a_o_shares a_o_keptFar a_o_image a_o_lanes a_o_sizes a_o_items a_o_movedItems o_taped o_at o_wrong o_level o_noRings o_noTones o_noFuel o_pieces o_drags o_all o_noPieces o_noDrags o_kept w_3 w_5 w_7 w_9 w_11 o_depths o_pieceParts o_dragCell o_dragBy o_image) := hD.sub [0, 1, 2, 3, 4, 10, 5, 6, 7, 8, 9] (by decide +kernel) rfl
    clear hPc hDc hFc
    refine lv_istore_n (lv' := [(1, .int r_10), (0, .ref h_o)]) hx hb dX7_restore_74 rfl hl (by decide) rfl (fun ls hl => ?_)
    refine lv_aload_n hx hb dX7_restore_75 rfl (lv_at hl 1 rfl) ?_
    refine va_get (D := (dC, dI)) (ci := 7) (v := .ref a_o_image) (C := RX7) (T := TX7) (N := 42) hx hb hts hi7 hown hK hP 0 rfl rfl 36 (by decide) hq2 (fun _ h9 => h9) rfl dX7_restore_76 ?_
    refine lv_iload_n hx hb dX7_restore_79 rfl (lv_at hl 0 rfl) ?_
    refine lv_aload_n hx hb dX7_restore_80 rfl (lv_at hl 1 rfl) ?_
    refine va_get (D := (dC, dI)) (ci := 7) (v := .ref a_o_depths) (C := RX7) (T := TX7) (N := 42) hx hb hts hi7 hown hK hP 0 rfl rfl 5 (by decide) hq8 (fun _ h9 => h9) rfl dX7_restore_81 ?_
    have hPc := hP.sub (ws' := (W_X7_gives cyI cyJ cyO 570 100 a_o_image a_o_depths o_image o_depths)) [10, 6] rfl
    have hDc := hD.sub (ws' := (W_X7_gives cyI cyJ cyO 570 100 a_o_image a_o_depths o_image o_depths)) [10, 6] (by decide +kernel) rfl
    have hFc := va_free (wc := (W_X7_gives cyI cyJ cyO 570 100 a_o_image a_o_depths o_image o_depths)) hD hS hA [10, 6] rfl
    refine kc_i (wr := [(h_o, .inr (7, [.ref a_o_sets, .ref a_o_ringFar, .ref a_o_ringTone, .ref a_o_currents, .ref a_o_warmths, .ref a_o_depths, .ref a_o_tape, .int o_taped, .int o_at, .int o_wrong, .ref a_o_readFar, .ref a_o_readTone, .ref a_o_readSea, .ref a_o_code, .ref a_o_cellAt, .ref a_o_courseAt, .ref a_o_paceAt, .ref a_o_turnsAt, .ref a_o_slowAt, .ref a_o_fuelAt, .ref a_o_ringAt, .int o_level, .int o_noRings, .int o_noTones, .int o_noFuel, .int o_pieces, .ref a_o_pieceParts, .int o_drags, .ref a_o_dragCell, .ref a_o_dragBy, .ref a_o_sums, .long o_all, .int o_noPieces, .int o_noDrags, .ref a_o_shares, .ref a_o_keptFar, .ref a_o_image, .int o_kept, .ref a_o_lanes, .ref a_o_sizes, .ref a_o_items, .ref a_o_movedItems])), (a_o_sets, .inl (cyI, 8, .inl w_3)), (a_o_ringFar, .inl (cyI, 7, .inl w_5)), (a_o_ringTone, .inl (cyI, 7, .inl w_7)), (a_o_currents, .inl (cyI, 200, .inl w_9)), (a_o_warmths, .inl (cyI, 200, .inl w_11)), (a_o_pieceParts, .inl (cyI, 20, .inl o_pieceParts)), (a_o_dragCell, .inl (cyI, 6, .inl o_dragCell)), (a_o_dragBy, .inl (cyI, 6, .inl o_dragBy))]) (va_runS (As := [.ref a_o_image, .int r_10, .ref a_o_depths]) (rest := []) ⟨hx, hb, hml, hown, hts⟩ (c_X7_gives l dC dI cyI cyJ cyO H.size 570 100 a_o_image a_o_depths o_image o_depths r_10 _ (okb2 hw)) (va_cwS 3 hts (gdS (fun w h => List.mem_cons_of_mem _ h) q_1072 q_1073 q_8 q_1074) rfl rfl rfl (by decide +kernel) ⟨Nat.le_of_ble_eq_true rfl, Nat.le_of_ble_eq_true rfl⟩) (kpre zN_ok hK hPc hDc trivial hS hFc) rfl rfl hl.1 rfl (lv_room (Nat.le_of_ble_eq_true rfl)) dX7_restore_84 ⟨Nat.le_of_ble_eq_true rfl, Nat.le_of_ble_eq_true rfl⟩) hP hD hS hFc [10, 6] [0, 1, 2, 3, 4, 5, 7, 8, 9] rfl rfl (by decide +kernel) (by decide +kernel) (fun r_12 w_13 H locs hw hP hD hS => ?_)
    try dsimp only at hw
    have hP : va_P (dC, dI) vwCl (W_X7_restore cyI cyJ cyO h_o a_o_sets a_o_ringFar a_o_ringTone a_o_currents a_o_warmths a_o_depths a_o_tape a_o_readFar a_o_readTone a_o_readSea a_o_code a_o_cellAt a_o_courseAt a_o_paceAt a_o_turnsAt a_o_slowAt a_o_fuelAt a_o_ringAt a_o_pieceParts a_o_dragCell a_o_dragBy a_o_sums a_o_shares a_o_keptFar a_o_image a_o_lanes a_o_sizes a_o_items a_o_movedItems o_taped o_at o_wrong o_level o_noRings o_noTones o_noFuel o_pieces o_drags o_all o_noPieces o_noDrags o_kept w_3 w_5 w_7 w_9 w_11 w_13 o_pieceParts o_dragCell o_dragBy o_image) H := hP.sub [0, 1, 2, 3, 4, 5, 10, 6, 7, 8, 9] rfl
    have hD : va_D A (W_X7_restore cyI cyJ cyO h_o a_o_sets a_o_ringFar a_o_ringTone a_o_currents a_o_warmths a_o_depths a_o_tape a_o_readFar a_o_readTone a_o_readSea a_o_code a_o_cellAt a_o_courseAt a_o_paceAt a_o_turnsAt a_o_slowAt a_o_fuelAt a_o_ringAt a_o_pieceParts a_o_dragCell a_o_dragBy a_o_sums a_o_shares a_o_keptFar a_o_image a_o_lanes a_o_sizes a_o_items a_o_movedItems o_taped o_at o_wrong o_level o_noRings o_noTones o_noFuel o_pieces o_drags o_all o_noPieces o_noDrags o_kept w_3 w_5 w_7 w_9 w_11 w_13 o_pieceParts o_dragCell o_dragBy o_image) := hD.sub [0, 1, 2, 3, 4, 5, 10, 6, 7, 8, 9] (by decide +kernel) rfl
    clear hPc hDc hFc
    refine lv_istore_n (lv' := [(1, .int r_12), (0, .ref h_o)]) hx hb dX7_restore_87 rfl hl (by decide) rfl (fun ls hl => ?_)
    refine lv_aload_n hx hb dX7_restore_88 rfl (lv_at hl 1 rfl) ?_
    refine va_get (D := (dC, dI)) (ci := 7) (v := .ref a_o_image) (C := RX7) (T := TX7) (N := 42) hx hb hts hi7 hown hK hP 0 rfl rfl 36 (by decide) hq2 (fun _ h9 => h9) rfl dX7_restore_89 ?_
    refine lv_iload_n hx hb dX7_restore_92 rfl (lv_at hl 0 rfl) ?_
    refine lv_aload_n hx hb dX7_restore_93 rfl (lv_at hl 1 rfl) ?_
    refine va_get (D := (dC, dI)) (ci := 7) (v := .ref a_o_pieceParts) (C := RX7) (T := TX7) (N := 42) hx hb hts hi7 hown hK hP 0 rfl rfl 26 (by decide) hq9 (fun _ h9 => h9) rfl dX7_restore_94 ?_
    have hPc := hP.sub (ws' := (W_X7_gives cyI cyJ cyO 570 20 a_o_image a_o_pieceParts o_image o_pieceParts)) [10, 7] rfl
    have hDc := hD.sub (ws' := (W_X7_gives cyI cyJ cyO 570 20 a_o_image a_o_pieceParts o_image o_pieceParts)) [10, 7] (by decide +kernel) rfl
    have hFc := va_free (wc := (W_X7_gives cyI cyJ cyO 570 20 a_o_image a_o_pieceParts o_image o_pieceParts)) hD hS hA [10, 7] rfl
    refine kc_i (wr := [(h_o, .inr (7, [.ref a_o_sets, .ref a_o_ringFar, .ref a_o_ringTone, .ref a_o_currents, .ref a_o_warmths, .ref a_o_depths, .ref a_o_tape, .int o_taped, .int o_at, .int o_wrong, .ref a_o_readFar, .ref a_o_readTone, .ref a_o_readSea, .ref a_o_code, .ref a_o_cellAt, .ref a_o_courseAt, .ref a_o_paceAt, .ref a_o_turnsAt, .ref a_o_slowAt, .ref a_o_fuelAt, .ref a_o_ringAt, .int o_level, .int o_noRings, .int o_noTones, .int o_noFuel, .int o_pieces, .ref a_o_pieceParts, .int o_drags, .ref a_o_dragCell, .ref a_o_dragBy, .ref a_o_sums, .long o_all, .int o_noPieces, .int o_noDrags, .ref a_o_shares, .ref a_o_keptFar, .ref a_o_image, .int o_kept, .ref a_o_lanes, .ref a_o_sizes, .ref a_o_items, .ref a_o_movedItems])), (a_o_sets, .inl (cyI, 8, .inl w_3)), (a_o_ringFar, .inl (cyI, 7, .inl w_5)), (a_o_ringTone, .inl (cyI, 7, .inl w_7)), (a_o_currents, .inl (cyI, 200, .inl w_9)), (a_o_warmths, .inl (cyI, 200, .inl w_11)), (a_o_depths, .inl (cyI, 100, .inl w_13)), (a_o_dragCell, .inl (cyI, 6, .inl o_dragCell)), (a_o_dragBy, .inl (cyI, 6, .inl o_dragBy))]) (va_runS (As := [.ref a_o_image, .int r_12, .ref a_o_pieceParts]) (rest := []) ⟨hx, hb, hml, hown, hts⟩ (c_X7_gives l dC dI cyI cyJ cyO H.size 570 20 a_o_image a_o_pieceParts o_image o_pieceParts r_12 _ (okb2 hw)) (va_cwS 3 hts (gdS (fun w h => List.mem_cons_of_mem _ h) q_1072 q_1073 q_8 q_1074) rfl rfl rfl (by decide +kernel) ⟨Nat.le_of_ble_eq_true rfl, Nat.le_of_ble_eq_true rfl⟩) (kpre zN_ok hK hPc hDc trivial hS hFc) rfl rfl hl.1 rfl (lv_room (Nat.le_of_ble_eq_true rfl)) dX7_restore_97 ⟨Nat.le_of_ble_eq_true rfl, Nat.le_of_ble_eq_true rfl⟩) hP hD hS hFc [10, 7] [0, 1, 2, 3, 4, 5, 6, 8, 9] rfl rfl (by decide +kernel) (by decide +kernel) (fun r_14 w_15 H locs hw hP hD hS => ?_)
    try dsimp only at hw
    have hP : va_P (dC, dI) vwCl (W_X7_restore cyI cyJ cyO h_o a_o_sets a_o_ringFar a_o_ringTone a_o_currents a_o_warmths a_o_depths a_o_tape a_o_readFar a_o_readTone a_o_readSea a_o_code a_o_cellAt a_o_courseAt a_o_paceAt a_o_turnsAt a_o_slowAt a_o_fuelAt a_o_ringAt a_o_pieceParts a_o_dragCell a_o_dragBy a_o_sums a_o_shares a_o_keptFar a_o_image a_o_lanes a_o_sizes a_o_items a_o_movedItems o_taped o_at o_wrong o_level o_noRings o_noTones o_noFuel o_pieces o_drags o_all o_noPieces o_noDrags o_kept w_3 w_5 w_7 w_9 w_11 w_13 w_15 o_dragCell o_dragBy o_image) H := hP.sub [0, 1, 2, 3, 4, 5, 6, 10, 7, 8, 9] rfl
    have hD : va_D A (W_X7_restore cyI cyJ cyO h_o a_o_sets a_o_ringFar a_o_ringTone a_o_currents a_o_warmths a_o_depths a_o_tape a_o_readFar a_o_readTone a_o_readSea a_o_code a_o_cellAt a_o_courseAt a_o_paceAt a_o_turnsAt a_o_slowAt a_o_fuelAt a_o_ringAt a_o_pieceParts a_o_dragCell a_o_dragBy a_o_sums a_o_shares a_o_keptFar a_o_image a_o_lanes a_o_sizes a_o_items a_o_movedItems o_taped o_at o_wrong o_level o_noRings o_noTones o_noFuel o_pieces o_drags o_all o_noPieces o_noDrags o_kept w_3 w_5 w_7 w_9 w_11 w_13 w_15 o_dragCell o_dragBy o_image) := hD.sub [0, 1, 2, 3, 4, 5, 6, 10, 7, 8, 9] (by decide +kernel) rfl
    clear hPc hDc hFc
    refine lv_istore_n (lv' := [(1, .int r_14), (0, .ref h_o)]) hx hb dX7_restore_100 rfl hl (by decide) rfl (fun ls hl => ?_)
    refine lv_aload_n hx hb dX7_restore_101 rfl (lv_at hl 1 rfl) ?_
    refine va_get (D := (dC, dI)) (ci := 7) (v := .ref a_o_image) (C := RX7) (T := TX7) (N := 42) hx hb hts hi7 hown hK hP 0 rfl rfl 36 (by decide) hq2 (fun _ h9 => h9) rfl dX7_restore_102 ?_
    refine lv_iload_n hx hb dX7_restore_105 rfl (lv_at hl 0 rfl) ?_
    refine lv_aload_n hx hb dX7_restore_106 rfl (lv_at hl 1 rfl) ?_
    refine va_get (D := (dC, dI)) (ci := 7) (v := .ref a_o_dragCell) (C := RX7) (T := TX7) (N := 42) hx hb hts hi7 hown hK hP 0 rfl rfl 28 (by decide) hq10 (fun _ h9 => h9) rfl dX7_restore_107 ?_
    have hPc := hP.sub (ws' := (W_X7_gives cyI cyJ cyO 570 6 a_o_image a_o_dragCell o_image o_dragCell)) [10, 8] rfl
    have hDc := hD.sub (ws' := (W_X7_gives cyI cyJ cyO 570 6 a_o_image a_o_dragCell o_image o_dragCell)) [10, 8] (by decide +kernel) rfl
    have hFc := va_free (wc := (W_X7_gives cyI cyJ cyO 570 6 a_o_image a_o_dragCell o_image o_dragCell)) hD hS hA [10, 8] rfl
    refine kc_i (wr := [(h_o, .inr (7, [.ref a_o_sets, .ref a_o_ringFar, .ref a_o_ringTone, .ref a_o_currents, .ref a_o_warmths, .ref a_o_depths, .ref a_o_tape, .int o_taped, .int o_at, .int o_wrong, .ref a_o_readFar, .ref a_o_readTone, .ref a_o_readSea, .ref a_o_code, .ref a_o_cellAt, .ref a_o_courseAt, .ref a_o_paceAt, .ref a_o_turnsAt, .ref a_o_slowAt, .ref a_o_fuelAt, .ref a_o_ringAt, .int o_level, .int o_noRings, .int o_noTones, .int o_noFuel, .int o_pieces, .ref a_o_pieceParts, .int o_drags, .ref a_o_dragCell, .ref a_o_dragBy, .ref a_o_sums, .long o_all, .int o_noPieces, .int o_noDrags, .ref a_o_shares, .ref a_o_keptFar, .ref a_o_image, .int o_kept, .ref a_o_lanes, .ref a_o_sizes, .ref a_o_items, .ref a_o_movedItems])), (a_o_sets, .inl (cyI, 8, .inl w_3)), (a_o_ringFar, .inl (cyI, 7, .inl w_5)), (a_o_ringTone, .inl (cyI, 7, .inl w_7)), (a_o_currents, .inl (cyI, 200, .inl w_9)), (a_o_warmths, .inl (cyI, 200, .inl w_11)), (a_o_depths, .inl (cyI, 100, .inl w_13)), (a_o_pieceParts, .inl (cyI, 20, .inl w_15)), (a_o_dragBy, .inl (cyI, 6, .inl o_dragBy))]) (va_runS (As := [.ref a_o_image, .int r_14, .ref a_o_dragCell]) (rest := []) ⟨hx, hb, hml, hown, hts⟩ (c_X7_gives l dC dI cyI cyJ cyO H.size 570 6 a_o_image a_o_dragCell o_image o_dragCell r_14 _ (okb2 hw)) (va_cwS 3 hts (gdS (fun w h => List.mem_cons_of_mem _ h) q_1072 q_1073 q_8 q_1074) rfl rfl rfl (by decide +kernel) ⟨Nat.le_of_ble_eq_true rfl, Nat.le_of_ble_eq_true rfl⟩) (kpre zN_ok hK hPc hDc trivial hS hFc) rfl rfl hl.1 rfl (lv_room (Nat.le_of_ble_eq_true rfl)) dX7_restore_110 ⟨Nat.le_of_ble_eq_true rfl, Nat.le_of_ble_eq_true rfl⟩) hP hD hS hFc [10, 8] [0, 1, 2, 3, 4, 5, 6, 7, 9] rfl rfl (by decide +kernel) (by decide +kernel) (fun r_16 w_17 H locs hw hP hD hS => ?_)
    try dsimp only at hw
    have hP : va_P (dC, dI) vwCl (W_X7_restore cyI cyJ cyO h_o a_o_sets a_o_ringFar a_o_ringTone a_o_currents a_o_warmths a_o_depths a_o_tape a_o_readFar a_o_readTone a_o_readSea a_o_code a_o_cellAt a_o_courseAt a_o_paceAt a_o_turnsAt a_o_slowAt a_o_fuelAt a_o_ringAt a_o_pieceParts a_o_dragCell a_o_dragBy a_o_sums a_o_shares a_o_keptFar a_o_image a_o_lanes a_o_sizes a_o_items a_o_movedItems o_taped o_at o_wrong o_level o_noRings o_noTones o_noFuel o_pieces o_drags o_all o_noPieces o_noDrags o_kept w_3 w_5 w_7 w_9 w_11 w_13 w_15 w_17 o_dragBy o_image) H := hP.sub [0, 1, 2, 3, 4, 5, 6, 7, 10, 8, 9] rfl
    have hD : va_D A (W_X7_restore cyI cyJ cyO h_o a_o_sets a_o_ringFar a_o_ringTone a_o_currents a_o_warmths a_o_depths a_o_tape a_o_readFar a_o_readTone a_o_readSea a_o_code a_o_cellAt a_o_courseAt a_o_paceAt a_o_turnsAt a_o_slowAt a_o_fuelAt a_o_ringAt a_o_pieceParts a_o_dragCell a_o_dragBy a_o_sums a_o_shares a_o_keptFar a_o_image a_o_lanes a_o_sizes a_o_items a_o_movedItems o_taped o_at o_wrong o_level o_noRings o_noTones o_noFuel o_pieces o_drags o_all o_noPieces o_noDrags o_kept w_3 w_5 w_7 w_9 w_11 w_13 w_15 w_17 o_dragBy o_image) := hD.sub [0, 1, 2, 3, 4, 5, 6, 7, 10, 8, 9] (by decide +kernel) rfl
    clear hPc hDc hFc
    refine lv_istore_n (lv' := [(1, .int r_16), (0, .ref h_o)]) hx hb dX7_restore_113 rfl hl (by decide) rfl (fun ls hl => ?_)
    refine lv_aload_n hx hb dX7_restore_114 rfl (lv_at hl 1 rfl) ?_
    refine va_get (D := (dC, dI)) (ci := 7) (v := .ref a_o_image) (C := RX7) (T := TX7) (N := 42) hx hb hts hi7 hown hK hP 0 rfl rfl 36 (by decide) hq2 (fun _ h9 => h9) rfl dX7_restore_115 ?_
    refine lv_iload_n hx hb dX7_restore_118 rfl (lv_at hl 0 rfl) ?_
    refine lv_aload_n hx hb dX7_restore_119 rfl (lv_at hl 1 rfl) ?_
    refine va_get (D := (dC, dI)) (ci := 7) (v := .ref a_o_dragBy) (C := RX7) (T := TX7) (N := 42) hx hb hts hi7 hown hK hP 0 rfl rfl 29 (by decide) hq11 (fun _ h9 => h9) rfl dX7_restore_120 ?_
    have hPc := hP.sub (ws' := (W_X7_gives cyI cyJ cyO 570 6 a_o_image a_o_dragBy o_image o_dragBy)) [10, 9] rfl
    have hDc := hD.sub (ws' := (W_X7_gives cyI cyJ cyO 570 6 a_o_image a_o_dragBy o_image o_dragBy)) [10, 9] (by decide +kernel) rfl
    have hFc := va_free (wc := (W_X7_gives cyI cyJ cyO 570 6 a_o_image a_o_dragBy o_image o_dragBy)) hD hS hA [10, 9] rfl
    refine kc_i (wr := [(h_o, .inr (7, [.ref a_o_sets, .ref a_o_ringFar, .ref a_o_ringTone, .ref a_o_currents, .ref a_o_warmths, .ref a_o_depths, .ref a_o_tape, .int o_taped, .int o_at, .int o_wrong, .ref a_o_readFar, .ref a_o_readTone, .ref a_o_readSea, .ref a_o_code, .ref a_o_cellAt, .ref a_o_courseAt, .ref a_o_paceAt, .ref a_o_turnsAt, .ref a_o_slowAt, .ref a_o_fuelAt, .ref a_o_ringAt, .int o_level, .int o_noRings, .int o_noTones, .int o_noFuel, .int o_pieces, .ref a_o_pieceParts, .int o_drags, .ref a_o_dragCell, .ref a_o_dragBy, .ref a_o_sums, .long o_all, .int o_noPieces, .int o_noDrags, .ref a_o_shares, .ref a_o_keptFar, .ref a_o_image, .int o_kept, .ref a_o_lanes, .ref a_o_sizes, .ref a_o_items, .ref a_o_movedItems])), (a_o_sets, .inl (cyI, 8, .inl w_3)), (a_o_ringFar, .inl (cyI, 7, .inl w_5)), (a_o_ringTone, .inl (cyI, 7, .inl w_7)), (a_o_currents, .inl (cyI, 200, .inl w_9)), (a_o_warmths, .inl (cyI, 200, .inl w_11)), (a_o_depths, .inl (cyI, 100, .inl w_13)), (a_o_pieceParts, .inl (cyI, 20, .inl w_15)), (a_o_dragCell, .inl (cyI, 6, .inl w_17))]) (va_runS (As := [.ref a_o_image, .int r_16, .ref a_o_dragBy]) (rest := []) ⟨hx, hb, hml, hown, hts⟩ (c_X7_gives l dC dI cyI cyJ cyO H.size 570 6 a_o_image a_o_dragBy o_image o_dragBy r_16 _ (okb2 hw)) (va_cwS 3 hts (gdS (fun w h => List.mem_cons_of_mem _ h) q_1072 q_1073 q_8 q_1074) rfl rfl rfl (by decide +kernel) ⟨Nat.le_of_ble_eq_true rfl, Nat.le_of_ble_eq_true rfl⟩) (kpre zN_ok hK hPc hDc trivial hS hFc) rfl rfl hl.1 rfl (lv_room (Nat.le_of_ble_eq_true rfl)) dX7_restore_123 ⟨Nat.le_of_ble_eq_true rfl, Nat.le_of_ble_eq_true rfl⟩) hP hD hS hFc [10, 9] [0, 1, 2, 3, 4, 5, 6, 7, 8] rfl rfl (by decide +kernel) (by decide +kernel) (fun r_18 w_19 H locs hw hP hD hS => ?_)
    try dsimp only at hw
    have hP : va_P (dC, dI) vwCl (W_X7_restore cyI cyJ cyO h_o a_o_sets a_o_ringFar a_o_ringTone a_o_currents a_o_warmths a_o_depths a_o_tape a_o_readFar a_o_readTone a_o_readSea a_o_code a_o_cellAt a_o_courseAt a_o_paceAt a_o_turnsAt a_o_slowAt a_o_fuelAt a_o_ringAt a_o_pieceParts a_o_dragCell a_o_dragBy a_o_sums a_o_shares a_o_keptFar a_o_image a_o_lanes a_o_sizes a_o_items a_o_movedItems o_taped o_at o_wrong o_level o_noRings o_noTones o_noFuel o_pieces o_drags o_all o_noPieces o_noDrags o_kept w_3 w_5 w_7 w_9 w_11 w_13 w_15 w_17 w_19 o_image) H := hP.sub [0, 1, 2, 3, 4, 5, 6, 7, 8, 10, 9] rfl
    have hD : va_D A (W_X7_restore cyI cyJ cyO h_o a_o_sets a_o_ringFar a_o_ringTone a_o_currents a_o_warmths a_o_depths a_o_tape a_o_readFar a_o_readTone a_o_readSea a_o_code a_o_cellAt a_o_courseAt a_o_paceAt a_o_turnsAt a_o_slowAt a_o_fuelAt a_o_ringAt a_o_pieceParts a_o_dragCell a_o_dragBy a_o_sums a_o_shares a_o_keptFar a_o_image a_o_lanes a_o_sizes a_o_items a_o_movedItems o_taped o_at o_wrong o_level o_noRings o_noTones o_noFuel o_pieces o_drags o_all o_noPieces o_noDrags o_kept w_3 w_5 w_7 w_9 w_11 w_13 w_15 w_17 w_19 o_image) := hD.sub [0, 1, 2, 3, 4, 5, 6, 7, 8, 10, 9] (by decide +kernel) rfl
    clear hPc hDc hFc
    refine lv_istore_n (lv' := [(1, .int r_18), (0, .ref h_o)]) hx hb dX7_restore_126 rfl hl (by decide) rfl (fun ls hl => ?_)
    refine lv_aload_n hx hb dX7_restore_127 rfl (lv_at hl 1 rfl) ?_
    refine lv_aload_n hx hb dX7_restore_128 rfl (lv_at hl 1 rfl) ?_
    refine va_get (D := (dC, dI)) (ci := 7) (v := .ref a_o_image) (C := RX7) (T := TX7) (N := 42) hx hb hts hi7 hown hK hP 0 rfl rfl 36 (by decide) hq2 (fun _ h9 => h9) rfl dX7_restore_129 ?_
    refine lv_iload_n hx hb dX7_restore_132 rfl (lv_at hl 0 rfl) ?_
    obtain ⟨h_20, hw⟩ := okC hw
    refine va_iald (i := r_18) hx hb hK hP 10 0 rfl rfl h_20 dX7_restore_133 ?_
    refine lv_topi (fun x_21 ex_21 => ?_)
    replace hw := okN ex_21 hw
    clear ex_21
    refine va_put (D := (dC, dI)) (ci := 7) (v := .int x_21) (ty := .int) (C := RX7) (T := TX7) (N := 42) hx hb hts hi7 tyX7 tyX7_ok nmX7 hown hK hP hD hS 0 rfl rfl 25 (by decide) hq12 (fun _ h9 => h9) rfl (by decide +kernel) rfl rfl (Nat.le_of_ble_eq_true rfl) dX7_restore_134 (fun H locs hP hD hS => ?_)
    have hP : va_P (dC, dI) vwCl (W_X7_restore cyI cyJ cyO h_o a_o_sets a_o_ringFar a_o_ringTone a_o_currents a_o_warmths a_o_depths a_o_tape a_o_readFar a_o_readTone a_o_readSea a_o_code a_o_cellAt a_o_courseAt a_o_paceAt a_o_turnsAt a_o_slowAt a_o_fuelAt a_o_ringAt a_o_pieceParts a_o_dragCell a_o_dragBy a_o_sums a_o_shares a_o_keptFar a_o_image a_o_lanes a_o_sizes a_o_items a_o_movedItems o_taped o_at o_wrong o_level o_noRings o_noTones o_noFuel x_21 o_drags o_all o_noPieces o_noDrags o_kept w_3 w_5 w_7 w_9 w_11 w_13 w_15 w_17 w_19 o_image) H := hP
    have hD : va_D A (W_X7_restore cyI cyJ cyO h_o a_o_sets a_o_ringFar a_o_ringTone a_o_currents a_o_warmths a_o_depths a_o_tape a_o_readFar a_o_readTone a_o_readSea a_o_code a_o_cellAt a_o_courseAt a_o_paceAt a_o_turnsAt a_o_slowAt a_o_fuelAt a_o_ringAt a_o_pieceParts a_o_dragCell a_o_dragBy a_o_sums a_o_shares a_o_keptFar a_o_image a_o_lanes a_o_sizes a_o_items a_o_movedItems o_taped o_at o_wrong o_level o_noRings o_noTones o_noFuel x_21 o_drags o_all o_noPieces o_noDrags o_kept w_3 w_5 w_7 w_9 w_11 w_13 w_15 w_17 w_19 o_image) := hD
    refine lv_aload_n hx hb dX7_restore_137 rfl (lv_at hl 1 rfl) ?_
    refine lv_aload_n hx hb dX7_restore_138 rfl (lv_at hl 1 rfl) ?_
    refine va_get (D := (dC, dI)) (ci := 7) (v := .ref a_o_image) (C := RX7) (T := TX7) (N := 42) hx hb hts hi7 hown hK hP 0 rfl rfl 36 (by decide) hq2 (fun _ h9 => h9) rfl dX7_restore_139 ?_
    refine lv_iload_n hx hb dX7_restore_142 rfl (lv_at hl 0 rfl) ?_
    refine lv_iconst (v := 1) hx hb dX7_restore_143 (by decide) ?_
    refine lv_iadd hx hb dX7_restore_144 ?_
    obtain ⟨h_22, hw⟩ := okC hw
    refine va_iald (i := r_18 + 1) hx hb hK hP 10 0 rfl rfl h_22 dX7_restore_145 ?_
    refine lv_topi (fun x_23 ex_23 => ?_)
    replace hw := okN ex_23 hw
    clear ex_23
    refine va_put (D := (dC, dI)) (ci := 7) (v := .int x_23) (ty := .int) (C := RX7) (T := TX7) (N := 42) hx hb hts hi7 tyX7 tyX7_ok nmX7 hown hK hP hD hS 0 rfl rfl 27 (by decide) hq13 (fun _ h9 => h9) rfl (by decide +kernel) rfl rfl (Nat.le_of_ble_eq_true rfl) dX7_restore_146 (fun H locs hP hD hS => ?_)
    have hP : va_P (dC, dI) vwCl (W_X7_restore cyI cyJ cyO h_o a_o_sets a_o_ringFar a_o_ringTone a_o_currents a_o_warmths a_o_depths a_o_tape a_o_readFar a_o_readTone a_o_readSea a_o_code a_o_cellAt a_o_courseAt a_o_paceAt a_o_turnsAt a_o_slowAt a_o_fuelAt a_o_ringAt a_o_pieceParts a_o_dragCell a_o_dragBy a_o_sums a_o_shares a_o_keptFar a_o_image a_o_lanes a_o_sizes a_o_items a_o_movedItems o_taped o_at o_wrong o_level o_noRings o_noTones o_noFuel x_21 x_23 o_all o_noPieces o_noDrags o_kept w_3 w_5 w_7 w_9 w_11 w_13 w_15 w_17 w_19 o_image) H := hP
    have hD : va_D A (W_X7_restore cyI cyJ cyO h_o a_o_sets a_o_ringFar a_o_ringTone a_o_currents a_o_warmths a_o_depths a_o_tape a_o_readFar a_o_readTone a_o_readSea a_o_code a_o_cellAt a_o_courseAt a_o_paceAt a_o_turnsAt a_o_slowAt a_o_fuelAt a_o_ringAt a_o_pieceParts a_o_dragCell a_o_dragBy a_o_sums a_o_shares a_o_keptFar a_o_image a_o_lanes a_o_sizes a_o_items a_o_movedItems o_taped o_at o_wrong o_level o_noRings o_noTones o_noFuel x_21 x_23 o_all o_noPieces o_noDrags o_kept w_3 w_5 w_7 w_9 w_11 w_13 w_15 w_17 w_19 o_image) := hD
    refine lv_iconst (v := 1) hx hb dX7_restore_149 (by decide) ?_
    rw [hQ]
    exact W.iret (v := 1) hx hb hr (fun t ht hW => ⟨⟨1, (x_21, x_23, w_3, w_5, w_7, w_9, w_11, w_13, w_15, w_17, w_19), rfl, okS hw, by rw [ht]; exact hP, va_K.moved hW.alike hK, hD⟩, hS.F ht⟩) hS.2.2 dX7_restore_150
  · replace hw := okT hw c_1
    clear c_1
    refine lv_bipush (v := (-4)) hx hb dX7_restore_7 (by decide) ?_
    rw [hQ]
    exact W.iret (v := (-4)) hx hb hr (fun t ht hW => ⟨⟨(-4), (o_pieces, o_drags, o_sets, o_ringFar, o_ringTone, o_currents, o_warmths, o_depths, o_pieceParts, o_dragCell, o_dragBy), rfl, okS hw, by rw [ht]; exact hP, va_K.moved hW.alike hK, hD⟩, hS.F ht⟩) hS.2.2 dX7_restore_9
/-! ===== X7_sheet ===== -/
theorem dX7_sheet_0 : decode cX7_sheet 0 = .ok (.iload_n 1, 1) := by decide +kernel
theorem dX7_sheet_1 : decode cX7_sheet 1 = .ok (.invokestatic 259, 3) := by decide +kernel
theorem dX7_sheet_4 : decode cX7_sheet 4 = .ok (.ifCond .eq 16, 3) := by decide +kernel
theorem dX7_sheet_7 : decode cX7_sheet 7 = .ok (.iload_n 2, 1) := by decide +kernel
theorem dX7_sheet_8 : decode cX7_sheet 8 = .ok (.invokestatic 262, 3) := by decide +kernel
theorem dX7_sheet_11 : decode cX7_sheet 11 = .ok (.ifCond .eq 9, 3) := by decide +kernel
theorem dX7_sheet_14 : decode cX7_sheet 14 = .ok (.iload_n 3, 1) := by decide +kernel
theorem dX7_sheet_15 : decode cX7_sheet 15 = .ok (.bipush 16, 2) := by decide +kernel
theorem dX7_sheet_17 : decode cX7_sheet 17 = .ok (.if_icmp .le 5, 3) := by decide +kernel
theorem dX7_sheet_20 : decode cX7_sheet 20 = .ok (.iconst (-1), 1) := by decide +kernel
theorem dX7_sheet_21 : decode cX7_sheet 21 = .ok (.ireturn, 1) := by decide +kernel
theorem dX7_sheet_22 : decode cX7_sheet 22 = .ok (.iload_n 3, 1) := by decide +kernel
theorem dX7_sheet_23 : decode cX7_sheet 23 = .ok (.ifCond .ge 6, 3) := by decide +kernel
theorem dX7_sheet_26 : decode cX7_sheet 26 = .ok (.bipush (-14), 2) := by decide +kernel
theorem dX7_sheet_28 : decode cX7_sheet 28 = .ok (.ireturn, 1) := by decide +kernel
theorem dX7_sheet_29 : decode cX7_sheet 29 = .ok (.aload_n 0, 1) := by decide +kernel
theorem dX7_sheet_30 : decode cX7_sheet 30 = .ok (.getfield 86, 3) := by decide +kernel
theorem dX7_sheet_33 : decode cX7_sheet 33 = .ok (.iload_n 1, 1) := by decide +kernel
theorem dX7_sheet_34 : decode cX7_sheet 34 = .ok (.iload_n 2, 1) := by decide +kernel
theorem dX7_sheet_35 : decode cX7_sheet 35 = .ok (.iastore, 1) := by decide +kernel
theorem dX7_sheet_36 : decode cX7_sheet 36 = .ok (.aload_n 0, 1) := by decide +kernel
theorem dX7_sheet_37 : decode cX7_sheet 37 = .ok (.getfield 89, 3) := by decide +kernel
theorem dX7_sheet_40 : decode cX7_sheet 40 = .ok (.iload_n 1, 1) := by decide +kernel
theorem dX7_sheet_41 : decode cX7_sheet 41 = .ok (.iload_n 3, 1) := by decide +kernel
theorem dX7_sheet_42 : decode cX7_sheet 42 = .ok (.iastore, 1) := by decide +kernel
theorem dX7_sheet_43 : decode cX7_sheet 43 = .ok (.iconst 0, 1) := by decide +kernel
theorem dX7_sheet_44 : decode cX7_sheet 44 = .ok (.istore 4, 2) := by decide +kernel
theorem dX7_sheet_46 : decode cX7_sheet 46 = .ok (.iload 4, 2) := by decide +kernel
theorem dX7_sheet_48 : decode cX7_sheet 48 = .ok (.bipush 16, 2) := by decide +kernel
theorem dX7_sheet_50 : decode cX7_sheet 50 = .ok (.if_icmp .ge 22, 3) := by decide +kernel
theorem dX7_sheet_53 : decode cX7_sheet 53 = .ok (.aload_n 0, 1) := by decide +kernel
theorem dX7_sheet_54 : decode cX7_sheet 54 = .ok (.getfield 92, 3) := by decide +kernel
theorem dX7_sheet_57 : decode cX7_sheet 57 = .ok (.bipush 16, 2) := by decide +kernel
theorem dX7_sheet_59 : decode cX7_sheet 59 = .ok (.iload_n 1, 1) := by decide +kernel
theorem dX7_sheet_60 : decode cX7_sheet 60 = .ok (.imul, 1) := by decide +kernel
theorem dX7_sheet_61 : decode cX7_sheet 61 = .ok (.iload 4, 2) := by decide +kernel
theorem dX7_sheet_63 : decode cX7_sheet 63 = .ok (.iadd, 1) := by decide +kernel
theorem dX7_sheet_64 : decode cX7_sheet 64 = .ok (.iconst 0, 1) := by decide +kernel
theorem dX7_sheet_65 : decode cX7_sheet 65 = .ok (.iastore, 1) := by decide +kernel
theorem dX7_sheet_66 : decode cX7_sheet 66 = .ok (.iinc 4 1, 3) := by decide +kernel
theorem dX7_sheet_69 : decode cX7_sheet 69 = .ok (.goto (-23), 3) := by decide +kernel
theorem dX7_sheet_72 : decode cX7_sheet 72 = .ok (.iload_n 3, 1) := by decide +kernel
theorem dX7_sheet_73 : decode cX7_sheet 73 = .ok (.ireturn, 1) := by decide +kernel
abbrev W_X7_sheet (cyI cyJ cyO : ClassId) (h_o a_o_sets a_o_ringFar a_o_ringTone a_o_currents a_o_warmths a_o_depths a_o_tape a_o_readFar a_o_readTone a_o_readSea a_o_code a_o_cellAt a_o_courseAt a_o_paceAt a_o_turnsAt a_o_slowAt a_o_fuelAt a_o_ringAt a_o_pieceParts a_o_dragCell a_o_dragBy a_o_sums a_o_shares a_o_keptFar a_o_image a_o_lanes a_o_sizes a_o_items a_o_movedItems : Nat) (o_taped : Int32) (o_at : Int32) (o_wrong : Int32) (o_level : Int32) (o_noRings : Int32) (o_noTones : Int32) (o_noFuel : Int32) (o_pieces : Int32) (o_drags : Int32) (o_all : Int64) (o_noPieces : Int32) (o_noDrags : Int32) (o_kept : Int32) (o_lanes : Nat → Int32) (o_sizes : Nat → Int32) (o_items : Nat → Int32) : va_W := [(h_o, .inr (7, [.ref a_o_sets, .ref a_o_ringFar, .ref a_o_ringTone, .ref a_o_currents, .ref a_o_warmths, .ref a_o_depths, .ref a_o_tape, .int o_taped, .int o_at, .int o_wrong, .ref a_o_readFar, .ref a_o_readTone, .ref a_o_readSea, .ref a_o_code, .ref a_o_cellAt, .ref a_o_courseAt, .ref a_o_paceAt, .ref a_o_turnsAt, .ref a_o_slowAt, .ref a_o_fuelAt, .ref a_o_ringAt, .int o_level, .int o_noRings, .int o_noTones, .int o_noFuel, .int o_pieces, .ref a_o_pieceParts, .int o_drags, .ref a_o_dragCell, .ref a_o_dragBy, .ref a_o_sums, .long o_all, .int o_noPieces, .int o_noDrags, .ref a_o_shares, .ref a_o_keptFar, .ref a_o_image, .int o_kept, .ref a_o_lanes, .ref a_o_sizes, .ref a_o_items, .ref a_o_movedItems])), (a_o_lanes, .inl (cyI, 4, .inl o_lanes)), (a_o_sizes, .inl (cyI, 4, .inl o_sizes)), (a_o_items, .inl (cyI, 64, .inl o_items))]
def f_X7_sheet_L46b (k46 : Int32 → Int32 → Int32 → (Nat → Int32) → (Nat → Int32) → (Nat → Int32) → Option (Int32 × (Nat → Int32) × (Nat → Int32) × (Nat → Int32))) (v1 : Int32) (v3 : Int32) (v4 : Int32) (o_lanes : Nat → Int32) (o_sizes : Nat → Int32) (o_items : Nat → Int32) : Option (Int32 × (Nat → Int32) × (Nat → Int32) × (Nat → Int32)) :=
  if 16 ≤ v4 then
    some (v3, o_lanes, o_sizes, o_items)
  else
    chk (¬ ((16 * v1) + v4 < 0 ∨ 64 ≤ ((16 * v1) + v4).toNatClampNeg)) <|
    nm (v4 + 1) fun x_1 =>
    k46 v1 v3 x_1 o_lanes o_sizes (upd o_items ((16 * v1) + v4).toNatClampNeg 0)
def f_X7_sheet_L46 : Nat → Int32 → Int32 → Int32 → (Nat → Int32) → (Nat → Int32) → (Nat → Int32) → Option (Int32 × (Nat → Int32) × (Nat → Int32) × (Nat → Int32))
  | 0 => fun _ _ _ _ _ _ => none
  | n + 1 => f_X7_sheet_L46b (f_X7_sheet_L46 n)
def f_X7_sheet (x1 : Int32) (x2 : Int32) (x3 : Int32) (o_lanes : Nat → Int32) (o_sizes : Nat → Int32) (o_items : Nat → Int32) : Option (Int32 × (Nat → Int32) × (Nat → Int32) × (Nat → Int32)) :=
  bd1 (f_X7_isSheet x1) fun r_2 =>
  if r_2 = 0 then
    some ((-1), o_lanes, o_sizes, o_items)
  else
    bd1 (f_X7_isLane x2) fun r_3 =>
    if r_3 = 0 then
      some ((-1), o_lanes, o_sizes, o_items)
    else
      if x3 ≤ 16 then
        if 0 ≤ x3 then
          chk (¬ (x1 < 0 ∨ 4 ≤ x1.toNatClampNeg)) <|
          chk (¬ (x1 < 0 ∨ 4 ≤ x1.toNatClampNeg)) <|
          f_X7_sheet_L46 FU x1 x3 0 (upd o_lanes x1.toNatClampNeg x2) (upd o_sizes x1.toNatClampNeg x3) o_items
        else
          some ((-14), o_lanes, o_sizes, o_items)
      else
        some ((-1), o_lanes, o_sizes, o_items)
abbrev rm_X7_sheet : Room := { frames := 2, cells := 0, slots := 0, locals := 45 }
set_option maxRecDepth 100000 in
set_option maxHeartbeats 4000000 in
theorem c_X7_sheet (l : Launch) (dC : Nat → ClassId) (dI : Nat → Nat → Nat) (cyI cyJ cyO : ClassId) (sz : Nat) (h_o a_o_sets a_o_ringFar a_o_ringTone a_o_currents a_o_warmths a_o_depths a_o_tape a_o_readFar a_o_readTone a_o_readSea a_o_code a_o_cellAt a_o_courseAt a_o_paceAt a_o_turnsAt a_o_slowAt a_o_fuelAt a_o_ringAt a_o_pieceParts a_o_dragCell a_o_dragBy a_o_sums a_o_shares a_o_keptFar a_o_image a_o_lanes a_o_sizes a_o_items a_o_movedItems : Nat) (o_taped : Int32) (o_at : Int32) (o_wrong : Int32) (o_level : Int32) (o_noRings : Int32) (o_noTones : Int32) (o_noFuel : Int32) (o_pieces : Int32) (o_drags : Int32) (o_all : Int64) (o_noPieces : Int32) (o_noDrags : Int32) (o_kept : Int32) (o_lanes : Nat → Int32) (o_sizes : Nat → Int32) (o_items : Nat → Int32) (x1 : Int32) (x2 : Int32) (x3 : Int32) (post : (Int32 × (Nat → Int32) × (Nat → Int32) × (Nat → Int32)) → Prop) (hf : okP (f_X7_sheet x1 x2 x3 o_lanes o_sizes o_items) post) : Ci l (dC, dI) (tyL cyI cyJ cyO) yX7_sheet wsX7_sheet rm_X7_sheet [.ref h_o, .int x1, .int x2, .int x3] sz (W_X7_sheet cyI cyJ cyO h_o a_o_sets a_o_ringFar a_o_ringTone a_o_currents a_o_warmths a_o_depths a_o_tape a_o_readFar a_o_readTone a_o_readSea a_o_code a_o_cellAt a_o_courseAt a_o_paceAt a_o_turnsAt a_o_slowAt a_o_fuelAt a_o_ringAt a_o_pieceParts a_o_dragCell a_o_dragBy a_o_sums a_o_shares a_o_keptFar a_o_image a_o_lanes a_o_sizes a_o_items a_o_movedItems o_taped o_at o_wrong o_level o_noRings o_noTones o_noFuel o_pieces o_drags o_all o_noPieces o_noDrags o_kept o_lanes o_sizes o_items) zN (fun r u => post (r, u)) (fun u => (W_X7_sheet cyI cyJ cyO h_o a_o_sets a_o_ringFar a_o_ringTone a_o_currents a_o_warmths a_o_depths a_o_tape a_o_readFar a_o_readTone a_o_readSea a_o_code a_o_cellAt a_o_courseAt a_o_paceAt a_o_turnsAt a_o_slowAt a_o_fuelAt a_o_ringAt a_o_pieceParts a_o_dragCell a_o_dragBy a_o_sums a_o_shares a_o_keptFar a_o_image a_o_lanes a_o_sizes a_o_items a_o_movedItems o_taped o_at o_wrong o_level o_noRings o_noTones o_noFuel o_pieces o_drags o_all o_noPieces o_noDrags o_kept u.1 u.2.1 u.2.2)) := by
  refine Met.ofW (cc := cX7_sheet) (maxL := 5) (ret := (some .int)) (by decide) rfl ?_
  intro p e s m args below meth c s₁ B hml hv
  obtain ⟨rfl, hsz, hP, hK, hD0, hZ⟩ := hv
  have hx := B.exec
  have hb := B.bytes
  have hr := B.returns
  have hts := atoms_spec (ws := wsX7_sheet) B.pre
  have hown : s.vm.findClass RX7 = some m.cls := findClass_of_methodNamed B.named
  have hlocks := B.notSynchronized
  subst hsz
  have hD := hD0.self (sz := s.heap.size)
  generalize hAe : va_A (W_X7_sheet cyI cyJ cyO h_o a_o_sets a_o_ringFar a_o_ringTone a_o_currents a_o_warmths a_o_depths a_o_tape a_o_readFar a_o_readTone a_o_readSea a_o_code a_o_cellAt a_o_courseAt a_o_paceAt a_o_turnsAt a_o_slowAt a_o_fuelAt a_o_ringAt a_o_pieceParts a_o_dragCell a_o_dragBy a_o_sums a_o_shares a_o_keptFar a_o_image a_o_lanes a_o_sizes a_o_items a_o_movedItems o_taped o_at o_wrong o_level o_noRings o_noTones o_noFuel o_pieces o_drags o_all o_noPieces o_noDrags o_kept o_lanes o_sizes o_items) s.heap.size = A at hD hZ ⊢
  have hA : ∀ q : Nat, s.heap.size ≤ q → A q := fun q h => by rw [← hAe]; exact Or.inr h
  clear hAe hD0
  have hS : va_S A s.heap s.heap [] := va_S.rf
  have hl := lv_entry ([.ref h_o, .int x1, .int x2, .int x3]) (n := 5) (Nat.le_of_ble_eq_true rfl)
  rw [lg_entry_eq]
  generalize (lg_sl ([.ref h_o, .int x1, .int x2, .int x3]) ++ List.replicate (5 - (lg_sl ([.ref h_o, .int x1, .int x2, .int x3])).length) Slot.unset).toArray = ls at hl ⊢
  have hl : lv_has ls 5 [(0, .ref h_o), (1, .int x1), (2, .int x2), (3, .int x3)] := hl
  refine kW (fun Q hQ => ?_)
  have hq0 := hts _ (List.mem_cons_of_mem _ q_746)
  have hi7 : ∀ w ∈ u_ws RX7 TX7 42, w ∈ wsX7_sheet := fun w h => List.mem_cons_of_mem _ (inX7 w h)
  have hq2 := hts _ (List.mem_cons_of_mem _ q_744)
  have hq3 := hts _ (List.mem_cons_of_mem _ q_745)
  have hw := hf
  have w46 : ∀ (n : Nat), ∀ (v1 : Int32) (v3 : Int32) (v4 : Int32) (o_lanes : Nat → Int32) (o_sizes : Nat → Int32) (o_items : Nat → Int32) (H : Heap) (locs : List Loc), va_P (dC, dI) vwCl (W_X7_sheet cyI cyJ cyO h_o a_o_sets a_o_ringFar a_o_ringTone a_o_currents a_o_warmths a_o_depths a_o_tape a_o_readFar a_o_readTone a_o_readSea a_o_code a_o_cellAt a_o_courseAt a_o_paceAt a_o_turnsAt a_o_slowAt a_o_fuelAt a_o_ringAt a_o_pieceParts a_o_dragCell a_o_dragBy a_o_sums a_o_shares a_o_keptFar a_o_image a_o_lanes a_o_sizes a_o_items a_o_movedItems o_taped o_at o_wrong o_level o_noRings o_noTones o_noFuel o_pieces o_drags o_all o_noPieces o_noDrags o_kept o_lanes o_sizes o_items) H → va_D A (W_X7_sheet cyI cyJ cyO h_o a_o_sets a_o_ringFar a_o_ringTone a_o_currents a_o_warmths a_o_depths a_o_tape a_o_readFar a_o_readTone a_o_readSea a_o_code a_o_cellAt a_o_courseAt a_o_paceAt a_o_turnsAt a_o_slowAt a_o_fuelAt a_o_ringAt a_o_pieceParts a_o_dragCell a_o_dragBy a_o_sums a_o_shares a_o_keptFar a_o_image a_o_lanes a_o_sizes a_o_items a_o_movedItems o_taped o_at o_wrong o_level o_noRings o_noTones o_noFuel o_pieces o_drags o_all o_noPieces o_noDrags o_kept o_lanes o_sizes o_items) → va_S A s.heap H locs → ∀ (ls : Array Slot), lv_has ls 5 [(0, .ref h_o), (1, .int v1), (3, .int v3), (4, .int v4)] → okP (f_X7_sheet_L46 n v1 v3 v4 o_lanes o_sizes o_items) post → W p l e (headSpec wsX7_sheet rm_X7_sheet).room s m ([.ref h_o, .int x1, .int x2, .int x3] : List Value).toArray below meth c H locs 0 0 Q (F0 m 46 ls []) := by
    intro n
    induction n with
    | zero =>
      intro v1 v3 v4 o_lanes o_sizes o_items H locs hP hD hS ls hl hw
      exact (ok0 hw).elim
    | succ n46 ih46 =>
      intro v1 v3 v4 o_lanes o_sizes o_items H locs hP hD hS ls hl hw
      replace hw : okP (f_X7_sheet_L46b (f_X7_sheet_L46 n46) v1 v3 v4 o_lanes o_sizes o_items) post := hw
      unfold f_X7_sheet_L46b at hw
      refine lv_iload hx hb dX7_sheet_46 (lv_at hl 3 rfl) ?_
      refine lv_bipush (v := 16) hx hb dX7_sheet_48 (by decide) ?_
      refine lv_icmp_ge (tgt := 72) hx hb dX7_sheet_50 (by decide) (fun c_1 => ?_) (fun c_1 => ?_)
      · replace hw := okT hw c_1
        clear c_1
        refine lv_iload_n hx hb dX7_sheet_72 rfl (lv_at hl 2 rfl) ?_
        rw [hQ]
        exact W.iret (v := v3) hx hb hr (fun t ht hW => ⟨⟨v3, (o_lanes, o_sizes, o_items), rfl, okS hw, by rw [ht]; exact hP, va_K.moved hW.alike hK, hD⟩, hS.F ht⟩) hS.2.2 dX7_sheet_73
      · replace hw := okF hw c_1
        clear c_1
        refine lv_aload_n hx hb dX7_sheet_53 rfl (lv_at hl 0 rfl) ?_
        refine va_get (D := (dC, dI)) (ci := 7) (v := .ref a_o_items) (C := RX7) (T := TX7) (N := 42) hx hb hts hi7 hown hK hP 0 rfl rfl 40 (by decide) hq0 (fun _ h9 => h9) rfl dX7_sheet_54 ?_
        refine lv_bipush (v := 16) hx hb dX7_sheet_57 (by decide) ?_
        refine lv_iload_n hx hb dX7_sheet_59 rfl (lv_at hl 1 rfl) ?_
        refine lv_imul hx hb dX7_sheet_60 ?_
        refine lv_iload hx hb dX7_sheet_61 (lv_at hl 3 rfl) ?_
        refine lv_iadd hx hb dX7_sheet_63 ?_
        refine lv_iconst (v := 0) hx hb dX7_sheet_64 (by decide) ?_
        obtain ⟨h_2, hw⟩ := okC hw
        refine va_iast (i := (16 * v1) + v4) (x := 0) hx hb hK hP hD hS 3 0 rfl rfl h_2 dX7_sheet_65 (fun H locs hP hD hS => ?_)
        have hP : va_P (dC, dI) vwCl (W_X7_sheet cyI cyJ cyO h_o a_o_sets a_o_ringFar a_o_ringTone a_o_currents a_o_warmths a_o_depths a_o_tape a_o_readFar a_o_readTone a_o_readSea a_o_code a_o_cellAt a_o_courseAt a_o_paceAt a_o_turnsAt a_o_slowAt a_o_fuelAt a_o_ringAt a_o_pieceParts a_o_dragCell a_o_dragBy a_o_sums a_o_shares a_o_keptFar a_o_image a_o_lanes a_o_sizes a_o_items a_o_movedItems o_taped o_at o_wrong o_level o_noRings o_noTones o_noFuel o_pieces o_drags o_all o_noPieces o_noDrags o_kept o_lanes o_sizes (upd o_items ((16 * v1) + v4).toNatClampNeg 0)) H := hP
        have hD : va_D A (W_X7_sheet cyI cyJ cyO h_o a_o_sets a_o_ringFar a_o_ringTone a_o_currents a_o_warmths a_o_depths a_o_tape a_o_readFar a_o_readTone a_o_readSea a_o_code a_o_cellAt a_o_courseAt a_o_paceAt a_o_turnsAt a_o_slowAt a_o_fuelAt a_o_ringAt a_o_pieceParts a_o_dragCell a_o_dragBy a_o_sums a_o_shares a_o_keptFar a_o_image a_o_lanes a_o_sizes a_o_items a_o_movedItems o_taped o_at o_wrong o_level o_noRings o_noTones o_noFuel o_pieces o_drags o_all o_noPieces o_noDrags o_kept o_lanes o_sizes (upd o_items ((16 * v1) + v4).toNatClampNeg 0)) := hD
        obtain ⟨x_3, ex_3⟩ : ∃ y : Int32, y = v4 + 1 := ⟨_, rfl⟩
        replace hw := okN ex_3 hw
        refine lv_iinc (v := x_3) (lv' := [(4, .int x_3), (0, .ref h_o), (1, .int v1), (3, .int v3)]) hx hb dX7_sheet_66 hl (k := 3) rfl (by rw [ex_3]; rfl) (by decide) rfl (fun ls hl => ?_)
        clear ex_3
        refine lv_goto (tgt := 46) hx hb dX7_sheet_69 (by decide) ?_
        exact ih46 v1 v3 x_3 o_lanes o_sizes (upd o_items ((16 * v1) + v4).toNatClampNeg 0) _ _ hP hD hS _ (lv_sub hl [1, 2, 3, 0] rfl) hw
  unfold f_X7_sheet at hw
  have hP : va_P (dC, dI) vwCl (W_X7_sheet cyI cyJ cyO h_o a_o_sets a_o_ringFar a_o_ringTone a_o_currents a_o_warmths a_o_depths a_o_tape a_o_readFar a_o_readTone a_o_readSea a_o_code a_o_cellAt a_o_courseAt a_o_paceAt a_o_turnsAt a_o_slowAt a_o_fuelAt a_o_ringAt a_o_pieceParts a_o_dragCell a_o_dragBy a_o_sums a_o_shares a_o_keptFar a_o_image a_o_lanes a_o_sizes a_o_items a_o_movedItems o_taped o_at o_wrong o_level o_noRings o_noTones o_noFuel o_pieces o_drags o_all o_noPieces o_noDrags o_kept o_lanes o_sizes o_items) s.heap := hP
  obtain ⟨H, hH⟩ : ∃ H, H = s.heap := ⟨_, rfl⟩
  obtain ⟨locs, hlo⟩ : ∃ x : List Loc, x = [] := ⟨_, rfl⟩
  have hP : va_P (dC, dI) vwCl (W_X7_sheet cyI cyJ cyO h_o a_o_sets a_o_ringFar a_o_ringTone a_o_currents a_o_warmths a_o_depths a_o_tape a_o_readFar a_o_readTone a_o_readSea a_o_code a_o_cellAt a_o_courseAt a_o_paceAt a_o_turnsAt a_o_slowAt a_o_fuelAt a_o_ringAt a_o_pieceParts a_o_dragCell a_o_dragBy a_o_sums a_o_shares a_o_keptFar a_o_image a_o_lanes a_o_sizes a_o_items a_o_movedItems o_taped o_at o_wrong o_level o_noRings o_noTones o_noFuel o_pieces o_drags o_all o_noPieces o_noDrags o_kept o_lanes o_sizes o_items) H := by rw [hH]; exact hP
  have hS : va_S A s.heap H locs := by rw [hH, hlo]; exact hS
  refine kH hH hlo ?_
  clear hH hlo
  refine lv_iload_n hx hb dX7_sheet_0 rfl (lv_at hl 1 rfl) ?_
  have hFc := va_free (wc := []) hD hS hA [] rfl
  refine kp_i (va_runS (As := [.int x1]) (rest := []) ⟨hx, hb, hml, hown, hts⟩ (c_X7_isSheet l dC dI cyI cyJ cyO H.size x1 _ (okb1 hw)) (va_cwS 1 hts (gdS (fun w h => List.mem_cons_of_mem _ h) q_1046 q_1047 q_8 q_1048) rfl rfl rfl (by decide +kernel) ⟨Nat.le_of_ble_eq_true rfl, Nat.le_of_ble_eq_true rfl⟩) (kpre zN_ok hK va_P0 va_D0 trivial hS hFc) rfl rfl hl.1 rfl (lv_room (Nat.le_of_ble_eq_true rfl)) dX7_sheet_1 ⟨Nat.le_of_ble_eq_true rfl, Nat.le_of_ble_eq_true rfl⟩) hP hD hS hFc (fun r_4 H locs hw hP hS => ?_)
  try dsimp only at hw
  clear hFc
  refine lv_if_eq (tgt := 20) hx hb dX7_sheet_4 (by decide) (fun c_5 => ?_) (fun c_5 => ?_)
  · replace hw := okT hw c_5
    clear c_5
    refine lv_iconst (v := (-1)) hx hb dX7_sheet_20 (by decide) ?_
    rw [hQ]
    exact W.iret (v := (-1)) hx hb hr (fun t ht hW => ⟨⟨(-1), (o_lanes, o_sizes, o_items), rfl, okS hw, by rw [ht]; exact hP, va_K.moved hW.alike hK, hD⟩, hS.F ht⟩) hS.2.2 dX7_sheet_21
  · replace hw := okF hw c_5
    clear c_5
    refine lv_iload_n hx hb dX7_sheet_7 rfl (lv_at hl 2 rfl) ?_
    have hFc := va_free (wc := []) hD hS hA [] rfl
    refine kp_i (va_runS (As := [.int x2]) (rest := []) ⟨hx, hb, hml, hown, hts⟩ (c_X7_isLane l dC dI cyI cyJ cyO H.size x2 _ (okb1 hw)) (va_cwS 1 hts (gdS (fun w h => List.mem_cons_of_mem _ h) q_1050 q_1051 q_8 q_1052) rfl rfl rfl (by decide +kernel) ⟨Nat.le_of_ble_eq_true rfl, Nat.le_of_ble_eq_true rfl⟩) (kpre zN_ok hK va_P0 va_D0 trivial hS hFc) rfl rfl hl.1 rfl (lv_room (Nat.le_of_ble_eq_true rfl)) dX7_sheet_8 ⟨Nat.le_of_ble_eq_true rfl, Nat.le_of_ble_eq_true rfl⟩) hP hD hS hFc (fun r_6 H locs hw hP hS => ?_)
    try dsimp only at hw
    clear hFc
    refine lv_if_eq (tgt := 20) hx hb dX7_sheet_11 (by decide) (fun c_7 => ?_) (fun c_7 => ?_)
    · replace hw := okT hw c_7
      clear c_7
      refine lv_iconst (v := (-1)) hx hb dX7_sheet_20 (by decide) ?_
      rw [hQ]
      exact W.iret (v := (-1)) hx hb hr (fun t ht hW => ⟨⟨(-1), (o_lanes, o_sizes, o_items), rfl, okS hw, by rw [ht]; exact hP, va_K.moved hW.alike hK, hD⟩, hS.F ht⟩) hS.2.2 dX7_sheet_21
    · replace hw := okF hw c_7
      clear c_7
      refine lv_iload_n hx hb dX7_sheet_14 rfl (lv_at hl 3 rfl) ?_
      refine lv_bipush (v := 16) hx hb dX7_sheet_15 (by decide) ?_
      refine lv_icmp_le (tgt := 22) hx hb dX7_sheet_17 (by decide) (fun c_8 => ?_) (fun c_8 => ?_)
      · replace hw := okT hw c_8
        clear c_8
        refine lv_iload_n hx hb dX7_sheet_22 rfl (lv_at hl 3 rfl) ?_
        refine lv_if_ge (tgt := 29) hx hb dX7_sheet_23 (by decide) (fun c_9 => ?_) (fun c_9 => ?_)
        · replace hw := okT hw c_9
          clear c_9
          refine lv_aload_n hx hb dX7_sheet_29 rfl (lv_at hl 0 rfl) ?_
          refine va_get (D := (dC, dI)) (ci := 7) (v := .ref a_o_lanes) (C := RX7) (T := TX7) (N := 42) hx hb hts hi7 hown hK hP 0 rfl rfl 38 (by decide) hq2 (fun _ h9 => h9) rfl dX7_sheet_30 ?_
          refine lv_iload_n hx hb dX7_sheet_33 rfl (lv_at hl 1 rfl) ?_
          refine lv_iload_n hx hb dX7_sheet_34 rfl (lv_at hl 2 rfl) ?_
          obtain ⟨h_10, hw⟩ := okC hw
          refine va_iast (i := x1) (x := x2) hx hb hK hP hD hS 1 0 rfl rfl h_10 dX7_sheet_35 (fun H locs hP hD hS => ?_)
          have hP : va_P (dC, dI) vwCl (W_X7_sheet cyI cyJ cyO h_o a_o_sets a_o_ringFar a_o_ringTone a_o_currents a_o_warmths a_o_depths a_o_tape a_o_readFar a_o_readTone a_o_readSea a_o_code a_o_cellAt a_o_courseAt a_o_paceAt a_o_turnsAt a_o_slowAt a_o_fuelAt a_o_ringAt a_o_pieceParts a_o_dragCell a_o_dragBy a_o_sums a_o_shares a_o_keptFar a_o_image a_o_lanes a_o_sizes a_o_items a_o_movedItems o_taped o_at o_wrong o_level o_noRings o_noTones o_noFuel o_pieces o_drags o_all o_noPieces o_noDrags o_kept (upd o_lanes x1.toNatClampNeg x2) o_sizes o_items) H := hP
          have hD : va_D A (W_X7_sheet cyI cyJ cyO h_o a_o_sets a_o_ringFar a_o_ringTone a_o_currents a_o_warmths a_o_depths a_o_tape a_o_readFar a_o_readTone a_o_readSea a_o_code a_o_cellAt a_o_courseAt a_o_paceAt a_o_turnsAt a_o_slowAt a_o_fuelAt a_o_ringAt a_o_pieceParts a_o_dragCell a_o_dragBy a_o_sums a_o_shares a_o_keptFar a_o_image a_o_lanes a_o_sizes a_o_items a_o_movedItems o_taped o_at o_wrong o_level o_noRings o_noTones o_noFuel o_pieces o_drags o_all o_noPieces o_noDrags o_kept (upd o_lanes x1.toNatClampNeg x2) o_sizes o_items) := hD
          refine lv_aload_n hx hb dX7_sheet_36 rfl (lv_at hl 0 rfl) ?_
          refine va_get (D := (dC, dI)) (ci := 7) (v := .ref a_o_sizes) (C := RX7) (T := TX7) (N := 42) hx hb hts hi7 hown hK hP 0 rfl rfl 39 (by decide) hq3 (fun _ h9 => h9) rfl dX7_sheet_37 ?_
          refine lv_iload_n hx hb dX7_sheet_40 rfl (lv_at hl 1 rfl) ?_
          refine lv_iload_n hx hb dX7_sheet_41 rfl (lv_at hl 3 rfl) ?_
          obtain ⟨h_11, hw⟩ := okC hw
          refine va_iast (i := x1) (x := x3) hx hb hK hP hD hS 2 0 rfl rfl h_11 dX7_sheet_42 (fun H locs hP hD hS => ?_)
          have hP : va_P (dC, dI) vwCl (W_X7_sheet cyI cyJ cyO h_o a_o_sets a_o_ringFar a_o_ringTone a_o_currents a_o_warmths a_o_depths a_o_tape a_o_readFar a_o_readTone a_o_readSea a_o_code a_o_cellAt a_o_courseAt a_o_paceAt a_o_turnsAt a_o_slowAt a_o_fuelAt a_o_ringAt a_o_pieceParts a_o_dragCell a_o_dragBy a_o_sums a_o_shares a_o_keptFar a_o_image a_o_lanes a_o_sizes a_o_items a_o_movedItems o_taped o_at o_wrong o_level o_noRings o_noTones o_noFuel o_pieces o_drags o_all o_noPieces o_noDrags o_kept (upd o_lanes x1.toNatClampNeg x2) (upd o_sizes x1.toNatClampNeg x3) o_items) H := hP
          have hD : va_D A (W_X7_sheet cyI cyJ cyO h_o a_o_sets a_o_ringFar a_o_ringTone a_o_currents a_o_warmths a_o_depths a_o_tape a_o_readFar a_o_readTone a_o_readSea a_o_code a_o_cellAt a_o_courseAt a_o_paceAt a_o_turnsAt a_o_slowAt a_o_fuelAt a_o_ringAt a_o_pieceParts a_o_dragCell a_o_dragBy a_o_sums a_o_shares a_o_keptFar a_o_image a_o_lanes a_o_sizes a_o_items a_o_movedItems o_taped o_at o_wrong o_level o_noRings o_noTones o_noFuel o_pieces o_drags o_all o_noPieces o_noDrags o_kept (upd o_lanes x1.toNatClampNeg x2) (upd o_sizes x1.toNatClampNeg x3) o_items) := hD
          refine lv_iconst (v := 0) hx hb dX7_sheet_43 (by decide) ?_
          refine lv_istore (lv' := [(4, .int 0), (0, .ref h_o), (1, .int x1), (2, .int x2), (3, .int x3)]) hx hb dX7_sheet_44 hl (by decide) rfl (fun ls hl => ?_)
          exact w46 FU x1 x3 0 (upd o_lanes x1.toNatClampNeg x2) (upd o_sizes x1.toNatClampNeg x3) o_items _ _ hP hD hS _ (lv_sub hl [1, 2, 4, 0] rfl) hw
        · replace hw := okF hw c_9
          clear c_9
          refine lv_bipush (v := (-14)) hx hb dX7_sheet_26 (by decide) ?_
          rw [hQ]
          exact W.iret (v := (-14)) hx hb hr (fun t ht hW => ⟨⟨(-14), (o_lanes, o_sizes, o_items), rfl, okS hw, by rw [ht]; exact hP, va_K.moved hW.alike hK, hD⟩, hS.F ht⟩) hS.2.2 dX7_sheet_28
      · replace hw := okF hw c_8
        clear c_8
        refine lv_iconst (v := (-1)) hx hb dX7_sheet_20 (by decide) ?_
        rw [hQ]
        exact W.iret (v := (-1)) hx hb hr (fun t ht hW => ⟨⟨(-1), (o_lanes, o_sizes, o_items), rfl, okS hw, by rw [ht]; exact hP, va_K.moved hW.alike hK, hD⟩, hS.F ht⟩) hS.2.2 dX7_sheet_21
/-! ===== X7_drop ===== -/
theorem dX7_drop_0 : decode cX7_drop 0 = .ok (.iload_n 1, 1) := by decide +kernel
theorem dX7_drop_1 : decode cX7_drop 1 = .ok (.invokestatic 259, 3) := by decide +kernel
theorem dX7_drop_4 : decode cX7_drop 4 = .ok (.ifCond .ne 5, 3) := by decide +kernel
theorem dX7_drop_7 : decode cX7_drop 7 = .ok (.iconst (-1), 1) := by decide +kernel
theorem dX7_drop_8 : decode cX7_drop 8 = .ok (.ireturn, 1) := by decide +kernel
theorem dX7_drop_9 : decode cX7_drop 9 = .ok (.aload_n 0, 1) := by decide +kernel
theorem dX7_drop_10 : decode cX7_drop 10 = .ok (.getfield 86, 3) := by decide +kernel
theorem dX7_drop_13 : decode cX7_drop 13 = .ok (.iload_n 1, 1) := by decide +kernel
theorem dX7_drop_14 : decode cX7_drop 14 = .ok (.iaload, 1) := by decide +kernel
theorem dX7_drop_15 : decode cX7_drop 15 = .ok (.ifCond .ge 6, 3) := by decide +kernel
theorem dX7_drop_18 : decode cX7_drop 18 = .ok (.bipush (-11), 2) := by decide +kernel
theorem dX7_drop_20 : decode cX7_drop 20 = .ok (.ireturn, 1) := by decide +kernel
theorem dX7_drop_21 : decode cX7_drop 21 = .ok (.aload_n 0, 1) := by decide +kernel
theorem dX7_drop_22 : decode cX7_drop 22 = .ok (.getfield 86, 3) := by decide +kernel
theorem dX7_drop_25 : decode cX7_drop 25 = .ok (.iload_n 1, 1) := by decide +kernel
theorem dX7_drop_26 : decode cX7_drop 26 = .ok (.iconst (-1), 1) := by decide +kernel
theorem dX7_drop_27 : decode cX7_drop 27 = .ok (.iastore, 1) := by decide +kernel
theorem dX7_drop_28 : decode cX7_drop 28 = .ok (.aload_n 0, 1) := by decide +kernel
theorem dX7_drop_29 : decode cX7_drop 29 = .ok (.getfield 89, 3) := by decide +kernel
theorem dX7_drop_32 : decode cX7_drop 32 = .ok (.iload_n 1, 1) := by decide +kernel
theorem dX7_drop_33 : decode cX7_drop 33 = .ok (.iaload, 1) := by decide +kernel
theorem dX7_drop_34 : decode cX7_drop 34 = .ok (.ireturn, 1) := by decide +kernel
abbrev W_X7_drop (cyI cyJ cyO : ClassId) (h_o a_o_sets a_o_ringFar a_o_ringTone a_o_currents a_o_warmths a_o_depths a_o_tape a_o_readFar a_o_readTone a_o_readSea a_o_code a_o_cellAt a_o_courseAt a_o_paceAt a_o_turnsAt a_o_slowAt a_o_fuelAt a_o_ringAt a_o_pieceParts a_o_dragCell a_o_dragBy a_o_sums a_o_shares a_o_keptFar a_o_image a_o_lanes a_o_sizes a_o_items a_o_movedItems : Nat) (o_taped : Int32) (o_at : Int32) (o_wrong : Int32) (o_level : Int32) (o_noRings : Int32) (o_noTones : Int32) (o_noFuel : Int32) (o_pieces : Int32) (o_drags : Int32) (o_all : Int64) (o_noPieces : Int32) (o_noDrags : Int32) (o_kept : Int32) (o_lanes : Nat → Int32) (o_sizes : Nat → Int32) : va_W := [(h_o, .inr (7, [.ref a_o_sets, .ref a_o_ringFar, .ref a_o_ringTone, .ref a_o_currents, .ref a_o_warmths, .ref a_o_depths, .ref a_o_tape, .int o_taped, .int o_at, .int o_wrong, .ref a_o_readFar, .ref a_o_readTone, .ref a_o_readSea, .ref a_o_code, .ref a_o_cellAt, .ref a_o_courseAt, .ref a_o_paceAt, .ref a_o_turnsAt, .ref a_o_slowAt, .ref a_o_fuelAt, .ref a_o_ringAt, .int o_level, .int o_noRings, .int o_noTones, .int o_noFuel, .int o_pieces, .ref a_o_pieceParts, .int o_drags, .ref a_o_dragCell, .ref a_o_dragBy, .ref a_o_sums, .long o_all, .int o_noPieces, .int o_noDrags, .ref a_o_shares, .ref a_o_keptFar, .ref a_o_image, .int o_kept, .ref a_o_lanes, .ref a_o_sizes, .ref a_o_items, .ref a_o_movedItems])), (a_o_lanes, .inl (cyI, 4, .inl o_lanes)), (a_o_sizes, .inl (cyI, 4, .inl o_sizes))]
def f_X7_drop (x1 : Int32) (o_lanes : Nat → Int32) (o_sizes : Nat → Int32) : Option (Int32 × (Nat → Int32)) :=
  bd1 (f_X7_isSheet x1) fun r_1 =>
  if r_1 = 0 then
    some ((-1), o_lanes)
  else
    chk (¬ (x1 < 0 ∨ 4 ≤ x1.toNatClampNeg)) <|
    if 0 ≤ (o_lanes x1.toNatClampNeg) then
      chk (¬ (x1 < 0 ∨ 4 ≤ x1.toNatClampNeg)) <|
      chk (¬ (x1 < 0 ∨ 4 ≤ x1.toNatClampNeg)) <|
      some (o_sizes x1.toNatClampNeg, upd o_lanes x1.toNatClampNeg (-1))
    else
      some ((-11), o_lanes)
abbrev rm_X7_drop : Room := { frames := 2, cells := 0, slots := 0, locals := 45 }
set_option maxRecDepth 100000 in
set_option maxHeartbeats 4000000 in
theorem c_X7_drop (l : Launch) (dC : Nat → ClassId) (dI : Nat → Nat → Nat) (cyI cyJ cyO : ClassId) (sz : Nat) (h_o a_o_sets a_o_ringFar a_o_ringTone a_o_currents a_o_warmths a_o_depths a_o_tape a_o_readFar a_o_readTone a_o_readSea a_o_code a_o_cellAt a_o_courseAt a_o_paceAt a_o_turnsAt a_o_slowAt a_o_fuelAt a_o_ringAt a_o_pieceParts a_o_dragCell a_o_dragBy a_o_sums a_o_shares a_o_keptFar a_o_image a_o_lanes a_o_sizes a_o_items a_o_movedItems : Nat) (o_taped : Int32) (o_at : Int32) (o_wrong : Int32) (o_level : Int32) (o_noRings : Int32) (o_noTones : Int32) (o_noFuel : Int32) (o_pieces : Int32) (o_drags : Int32) (o_all : Int64) (o_noPieces : Int32) (o_noDrags : Int32) (o_kept : Int32) (o_lanes : Nat → Int32) (o_sizes : Nat → Int32) (x1 : Int32) (post : (Int32 × (Nat → Int32)) → Prop) (hf : okP (f_X7_drop x1 o_lanes o_sizes) post) : Ci l (dC, dI) (tyL cyI cyJ cyO) yX7_drop wsX7_drop rm_X7_drop [.ref h_o, .int x1] sz (W_X7_drop cyI cyJ cyO h_o a_o_sets a_o_ringFar a_o_ringTone a_o_currents a_o_warmths a_o_depths a_o_tape a_o_readFar a_o_readTone a_o_readSea a_o_code a_o_cellAt a_o_courseAt a_o_paceAt a_o_turnsAt a_o_slowAt a_o_fuelAt a_o_ringAt a_o_pieceParts a_o_dragCell a_o_dragBy a_o_sums a_o_shares a_o_keptFar a_o_image a_o_lanes a_o_sizes a_o_items a_o_movedItems o_taped o_at o_wrong o_level o_noRings o_noTones o_noFuel o_pieces o_drags o_all o_noPieces o_noDrags o_kept o_lanes o_sizes) zN (fun r u => post (r, u)) (fun u => (W_X7_drop cyI cyJ cyO h_o a_o_sets a_o_ringFar a_o_ringTone a_o_currents a_o_warmths a_o_depths a_o_tape a_o_readFar a_o_readTone a_o_readSea a_o_code a_o_cellAt a_o_courseAt a_o_paceAt a_o_turnsAt a_o_slowAt a_o_fuelAt a_o_ringAt a_o_pieceParts a_o_dragCell a_o_dragBy a_o_sums a_o_shares a_o_keptFar a_o_image a_o_lanes a_o_sizes a_o_items a_o_movedItems o_taped o_at o_wrong o_level o_noRings o_noTones o_noFuel o_pieces o_drags o_all o_noPieces o_noDrags o_kept u o_sizes)) := by
  refine Met.ofW (cc := cX7_drop) (maxL := 2) (ret := (some .int)) (by decide) rfl ?_
  intro p e s m args below meth c s₁ B hml hv
  obtain ⟨rfl, hsz, hP, hK, hD0, hZ⟩ := hv
  have hx := B.exec
  have hb := B.bytes
  have hr := B.returns
  have hts := atoms_spec (ws := wsX7_drop) B.pre
  have hown : s.vm.findClass RX7 = some m.cls := findClass_of_methodNamed B.named
  have hlocks := B.notSynchronized
  subst hsz
  have hD := hD0.self (sz := s.heap.size)
  generalize hAe : va_A (W_X7_drop cyI cyJ cyO h_o a_o_sets a_o_ringFar a_o_ringTone a_o_currents a_o_warmths a_o_depths a_o_tape a_o_readFar a_o_readTone a_o_readSea a_o_code a_o_cellAt a_o_courseAt a_o_paceAt a_o_turnsAt a_o_slowAt a_o_fuelAt a_o_ringAt a_o_pieceParts a_o_dragCell a_o_dragBy a_o_sums a_o_shares a_o_keptFar a_o_image a_o_lanes a_o_sizes a_o_items a_o_movedItems o_taped o_at o_wrong o_level o_noRings o_noTones o_noFuel o_pieces o_drags o_all o_noPieces o_noDrags o_kept o_lanes o_sizes) s.heap.size = A at hD hZ ⊢
  have hA : ∀ q : Nat, s.heap.size ≤ q → A q := fun q h => by rw [← hAe]; exact Or.inr h
  clear hAe hD0
  have hS : va_S A s.heap s.heap [] := va_S.rf
  have hl := lv_entry ([.ref h_o, .int x1]) (n := 2) (Nat.le_of_ble_eq_true rfl)
  rw [lg_entry_eq]
  generalize (lg_sl ([.ref h_o, .int x1]) ++ List.replicate (2 - (lg_sl ([.ref h_o, .int x1])).length) Slot.unset).toArray = ls at hl ⊢
  have hl : lv_has ls 2 [(0, .ref h_o), (1, .int x1)] := hl
  refine kW (fun Q hQ => ?_)
  have hq0 := hts _ (List.mem_cons_of_mem _ q_744)
  have hi7 : ∀ w ∈ u_ws RX7 TX7 42, w ∈ wsX7_drop := fun w h => List.mem_cons_of_mem _ (inX7 w h)
  have hq2 := hts _ (List.mem_cons_of_mem _ q_745)
  have hw := hf
  unfold f_X7_drop at hw
  have hP : va_P (dC, dI) vwCl (W_X7_drop cyI cyJ cyO h_o a_o_sets a_o_ringFar a_o_ringTone a_o_currents a_o_warmths a_o_depths a_o_tape a_o_readFar a_o_readTone a_o_readSea a_o_code a_o_cellAt a_o_courseAt a_o_paceAt a_o_turnsAt a_o_slowAt a_o_fuelAt a_o_ringAt a_o_pieceParts a_o_dragCell a_o_dragBy a_o_sums a_o_shares a_o_keptFar a_o_image a_o_lanes a_o_sizes a_o_items a_o_movedItems o_taped o_at o_wrong o_level o_noRings o_noTones o_noFuel o_pieces o_drags o_all o_noPieces o_noDrags o_kept o_lanes o_sizes) s.heap := hP
  obtain ⟨H, hH⟩ : ∃ H, H = s.heap := ⟨_, rfl⟩
  obtain ⟨locs, hlo⟩ : ∃ x : List Loc, x = [] := ⟨_, rfl⟩
  have hP : va_P (dC, dI) vwCl (W_X7_drop cyI cyJ cyO h_o a_o_sets a_o_ringFar a_o_ringTone a_o_currents a_o_warmths a_o_depths a_o_tape a_o_readFar a_o_readTone a_o_readSea a_o_code a_o_cellAt a_o_courseAt a_o_paceAt a_o_turnsAt a_o_slowAt a_o_fuelAt a_o_ringAt a_o_pieceParts a_o_dragCell a_o_dragBy a_o_sums a_o_shares a_o_keptFar a_o_image a_o_lanes a_o_sizes a_o_items a_o_movedItems o_taped o_at o_wrong o_level o_noRings o_noTones o_noFuel o_pieces o_drags o_all o_noPieces o_noDrags o_kept o_lanes o_sizes) H := by rw [hH]; exact hP
  have hS : va_S A s.heap H locs := by rw [hH, hlo]; exact hS
  refine kH hH hlo ?_
  clear hH hlo
  refine lv_iload_n hx hb dX7_drop_0 rfl (lv_at hl 1 rfl) ?_
  have hFc := va_free (wc := []) hD hS hA [] rfl
  refine kp_i (va_runS (As := [.int x1]) (rest := []) ⟨hx, hb, hml, hown, hts⟩ (c_X7_isSheet l dC dI cyI cyJ cyO H.size x1 _ (okb1 hw)) (va_cwS 1 hts (gdS (fun w h => List.mem_cons_of_mem _ h) q_1046 q_1047 q_8 q_1048) rfl rfl rfl (by decide +kernel) ⟨Nat.le_of_ble_eq_true rfl, Nat.le_of_ble_eq_true rfl⟩) (kpre zN_ok hK va_P0 va_D0 trivial hS hFc) rfl rfl hl.1 rfl (lv_room (Nat.le_of_ble_eq_true rfl)) dX7_drop_1 ⟨Nat.le_of_ble_eq_true rfl, Nat.le_of_ble_eq_true rfl⟩) hP hD hS hFc (fun r_1 H locs hw hP hS => ?_)
  try dsimp only at hw
  clear hFc
  refine lv_if_ne (tgt := 9) hx hb dX7_drop_4 (by decide) (fun c_2 => ?_) (fun c_2 => ?_)
  · replace hw := okF hw c_2
    clear c_2
    refine lv_aload_n hx hb dX7_drop_9 rfl (lv_at hl 0 rfl) ?_
    refine va_get (D := (dC, dI)) (ci := 7) (v := .ref a_o_lanes) (C := RX7) (T := TX7) (N := 42) hx hb hts hi7 hown hK hP 0 rfl rfl 38 (by decide) hq0 (fun _ h9 => h9) rfl dX7_drop_10 ?_
    refine lv_iload_n hx hb dX7_drop_13 rfl (lv_at hl 1 rfl) ?_
    obtain ⟨h_3, hw⟩ := okC hw
    refine va_iald (i := x1) hx hb hK hP 1 0 rfl rfl h_3 dX7_drop_14 ?_
    refine lv_if_ge (tgt := 21) hx hb dX7_drop_15 (by decide) (fun c_4 => ?_) (fun c_4 => ?_)
    · replace hw := okT hw c_4
      clear c_4
      refine lv_aload_n hx hb dX7_drop_21 rfl (lv_at hl 0 rfl) ?_
      refine va_get (D := (dC, dI)) (ci := 7) (v := .ref a_o_lanes) (C := RX7) (T := TX7) (N := 42) hx hb hts hi7 hown hK hP 0 rfl rfl 38 (by decide) hq0 (fun _ h9 => h9) rfl dX7_drop_22 ?_
      refine lv_iload_n hx hb dX7_drop_25 rfl (lv_at hl 1 rfl) ?_
      refine lv_iconst (v := (-1)) hx hb dX7_drop_26 (by decide) ?_
      obtain ⟨h_5, hw⟩ := okC hw
      refine va_iast (i := x1) (x := (-1)) hx hb hK hP hD hS 1 0 rfl rfl h_5 dX7_drop_27 (fun H locs hP hD hS => ?_)
      have hP : va_P (dC, dI) vwCl (W_X7_drop cyI cyJ cyO h_o a_o_sets a_o_ringFar a_o_ringTone a_o_currents a_o_warmths a_o_depths a_o_tape a_o_readFar a_o_readTone a_o_readSea a_o_code a_o_cellAt a_o_courseAt a_o_paceAt a_o_turnsAt a_o_slowAt a_o_fuelAt a_o_ringAt a_o_pieceParts a_o_dragCell a_o_dragBy a_o_sums a_o_shares a_o_keptFar a_o_image a_o_lanes a_o_sizes a_o_items a_o_movedItems o_taped o_at o_wrong o_level o_noRings o_noTones o_noFuel o_pieces o_drags o_all o_noPieces o_noDrags o_kept (upd o_lanes x1.toNatClampNeg (-1)) o_sizes) H := hP
      have hD : va_D A (W_X7_drop cyI cyJ cyO h_o a_o_sets a_o_ringFar a_o_ringTone a_o_currents a_o_warmths a_o_depths a_o_tape a_o_readFar a_o_readTone a_o_readSea a_o_code a_o_cellAt a_o_courseAt a_o_paceAt a_o_turnsAt a_o_slowAt a_o_fuelAt a_o_ringAt a_o_pieceParts a_o_dragCell a_o_dragBy a_o_sums a_o_shares a_o_keptFar a_o_image a_o_lanes a_o_sizes a_o_items a_o_movedItems o_taped o_at o_wrong o_level o_noRings o_noTones o_noFuel o_pieces o_drags o_all o_noPieces o_noDrags o_kept (upd o_lanes x1.toNatClampNeg (-1)) o_sizes) := hD
      refine lv_aload_n hx hb dX7_drop_28 rfl (lv_at hl 0 rfl) ?_
      refine va_get (D := (dC, dI)) (ci := 7) (v := .ref a_o_sizes) (C := RX7) (T := TX7) (N := 42) hx hb hts hi7 hown hK hP 0 rfl rfl 39 (by decide) hq2 (fun _ h9 => h9) rfl dX7_drop_29 ?_
      refine lv_iload_n hx hb dX7_drop_32 rfl (lv_at hl 1 rfl) ?_
      obtain ⟨h_6, hw⟩ := okC hw
      refine va_iald (i := x1) hx hb hK hP 2 0 rfl rfl h_6 dX7_drop_33 ?_
      rw [hQ]
      exact W.iret (v := o_sizes x1.toNatClampNeg) hx hb hr (fun t ht hW => ⟨⟨o_sizes x1.toNatClampNeg, (upd o_lanes x1.toNatClampNeg (-1)), rfl, okS hw, by rw [ht]; exact hP, va_K.moved hW.alike hK, hD⟩, hS.F ht⟩) hS.2.2 dX7_drop_34
    · replace hw := okF hw c_4
      clear c_4
      refine lv_bipush (v := (-11)) hx hb dX7_drop_18 (by decide) ?_
      rw [hQ]
      exact W.iret (v := (-11)) hx hb hr (fun t ht hW => ⟨⟨(-11), o_lanes, rfl, okS hw, by rw [ht]; exact hP, va_K.moved hW.alike hK, hD⟩, hS.F ht⟩) hS.2.2 dX7_drop_20
  · replace hw := okT hw c_2
    clear c_2
    refine lv_iconst (v := (-1)) hx hb dX7_drop_7 (by decide) ?_
    rw [hQ]
    exact W.iret (v := (-1)) hx hb hr (fun t ht hW => ⟨⟨(-1), o_lanes, rfl, okS hw, by rw [ht]; exact hP, va_K.moved hW.alike hK, hD⟩, hS.F ht⟩) hS.2.2 dX7_drop_8
/-! ===== X7_item ===== -/
theorem dX7_item_0 : decode cX7_item 0 = .ok (.iload_n 1, 1) := by decide +kernel
theorem dX7_item_1 : decode cX7_item 1 = .ok (.invokestatic 259, 3) := by decide +kernel
theorem dX7_item_4 : decode cX7_item 4 = .ok (.ifCond .eq 10, 3) := by decide +kernel
theorem dX7_item_7 : decode cX7_item 7 = .ok (.iload_n 2, 1) := by decide +kernel
theorem dX7_item_8 : decode cX7_item 8 = .ok (.invokestatic 262, 3) := by decide +kernel
theorem dX7_item_11 : decode cX7_item 11 = .ok (.ifCond .ne 5, 3) := by decide +kernel
theorem dX7_item_14 : decode cX7_item 14 = .ok (.iconst (-1), 1) := by decide +kernel
theorem dX7_item_15 : decode cX7_item 15 = .ok (.ireturn, 1) := by decide +kernel
theorem dX7_item_16 : decode cX7_item 16 = .ok (.aload_n 0, 1) := by decide +kernel
theorem dX7_item_17 : decode cX7_item 17 = .ok (.iload_n 1, 1) := by decide +kernel
theorem dX7_item_18 : decode cX7_item 18 = .ok (.iload_n 2, 1) := by decide +kernel
theorem dX7_item_19 : decode cX7_item 19 = .ok (.iload_n 3, 1) := by decide +kernel
theorem dX7_item_20 : decode cX7_item 20 = .ok (.iconst 1, 1) := by decide +kernel
theorem dX7_item_21 : decode cX7_item 21 = .ok (.invokevirtual 265, 3) := by decide +kernel
theorem dX7_item_24 : decode cX7_item 24 = .ok (.istore 5, 2) := by decide +kernel
theorem dX7_item_26 : decode cX7_item 26 = .ok (.iload 5, 2) := by decide +kernel
theorem dX7_item_28 : decode cX7_item 28 = .ok (.ifCond .ge 6, 3) := by decide +kernel
theorem dX7_item_31 : decode cX7_item 31 = .ok (.iload 5, 2) := by decide +kernel
theorem dX7_item_33 : decode cX7_item 33 = .ok (.ireturn, 1) := by decide +kernel
theorem dX7_item_34 : decode cX7_item 34 = .ok (.aload_n 0, 1) := by decide +kernel
theorem dX7_item_35 : decode cX7_item 35 = .ok (.getfield 92, 3) := by decide +kernel
theorem dX7_item_38 : decode cX7_item 38 = .ok (.bipush 16, 2) := by decide +kernel
theorem dX7_item_40 : decode cX7_item 40 = .ok (.iload_n 1, 1) := by decide +kernel
theorem dX7_item_41 : decode cX7_item 41 = .ok (.imul, 1) := by decide +kernel
theorem dX7_item_42 : decode cX7_item 42 = .ok (.iload_n 3, 1) := by decide +kernel
theorem dX7_item_43 : decode cX7_item 43 = .ok (.iadd, 1) := by decide +kernel
theorem dX7_item_44 : decode cX7_item 44 = .ok (.iload_n 2, 1) := by decide +kernel
theorem dX7_item_45 : decode cX7_item 45 = .ok (.ifCond .ne 9, 3) := by decide +kernel
theorem dX7_item_48 : decode cX7_item 48 = .ok (.iload 4, 2) := by decide +kernel
theorem dX7_item_50 : decode cX7_item 50 = .ok (.i2b, 1) := by decide +kernel
theorem dX7_item_51 : decode cX7_item 51 = .ok (.goto 16, 3) := by decide +kernel
theorem dX7_item_54 : decode cX7_item 54 = .ok (.iload_n 2, 1) := by decide +kernel
theorem dX7_item_55 : decode cX7_item 55 = .ok (.iconst 1, 1) := by decide +kernel
theorem dX7_item_56 : decode cX7_item 56 = .ok (.if_icmp .ne 9, 3) := by decide +kernel
theorem dX7_item_59 : decode cX7_item 59 = .ok (.iload 4, 2) := by decide +kernel
theorem dX7_item_61 : decode cX7_item 61 = .ok (.i2s, 1) := by decide +kernel
theorem dX7_item_62 : decode cX7_item 62 = .ok (.goto 5, 3) := by decide +kernel
theorem dX7_item_65 : decode cX7_item 65 = .ok (.iload 4, 2) := by decide +kernel
theorem dX7_item_67 : decode cX7_item 67 = .ok (.iastore, 1) := by decide +kernel
theorem dX7_item_68 : decode cX7_item 68 = .ok (.iconst 1, 1) := by decide +kernel
theorem dX7_item_69 : decode cX7_item 69 = .ok (.ireturn, 1) := by decide +kernel
abbrev W_X7_item (cyI cyJ cyO : ClassId) (h_o a_o_sets a_o_ringFar a_o_ringTone a_o_currents a_o_warmths a_o_depths a_o_tape a_o_readFar a_o_readTone a_o_readSea a_o_code a_o_cellAt a_o_courseAt a_o_paceAt a_o_turnsAt a_o_slowAt a_o_fuelAt a_o_ringAt a_o_pieceParts a_o_dragCell a_o_dragBy a_o_sums a_o_shares a_o_keptFar a_o_image a_o_lanes a_o_sizes a_o_items a_o_movedItems : Nat) (o_taped : Int32) (o_at : Int32) (o_wrong : Int32) (o_level : Int32) (o_noRings : Int32) (o_noTones : Int32) (o_noFuel : Int32) (o_pieces : Int32) (o_drags : Int32) (o_all : Int64) (o_noPieces : Int32) (o_noDrags : Int32) (o_kept : Int32) (o_lanes : Nat → Int32) (o_sizes : Nat → Int32) (o_items : Nat → Int32) : va_W := [(h_o, .inr (7, [.ref a_o_sets, .ref a_o_ringFar, .ref a_o_ringTone, .ref a_o_currents, .ref a_o_warmths, .ref a_o_depths, .ref a_o_tape, .int o_taped, .int o_at, .int o_wrong, .ref a_o_readFar, .ref a_o_readTone, .ref a_o_readSea, .ref a_o_code, .ref a_o_cellAt, .ref a_o_courseAt, .ref a_o_paceAt, .ref a_o_turnsAt, .ref a_o_slowAt, .ref a_o_fuelAt, .ref a_o_ringAt, .int o_level, .int o_noRings, .int o_noTones, .int o_noFuel, .int o_pieces, .ref a_o_pieceParts, .int o_drags, .ref a_o_dragCell, .ref a_o_dragBy, .ref a_o_sums, .long o_all, .int o_noPieces, .int o_noDrags, .ref a_o_shares, .ref a_o_keptFar, .ref a_o_image, .int o_kept, .ref a_o_lanes, .ref a_o_sizes, .ref a_o_items, .ref a_o_movedItems])), (a_o_lanes, .inl (cyI, 4, .inl o_lanes)), (a_o_sizes, .inl (cyI, 4, .inl o_sizes)), (a_o_items, .inl (cyI, 64, .inl o_items))]
def f_X7_item_B67 (y0 : Int32) (y1 : Int32) (o_lanes : Nat → Int32) (o_sizes : Nat → Int32) (o_items : Nat → Int32) : Option (Int32 × (Nat → Int32)) :=
  chk (¬ (y1 < 0 ∨ 64 ≤ y1.toNatClampNeg)) <|
  some (1, upd o_items y1.toNatClampNeg y0)
def f_X7_item (x1 : Int32) (x2 : Int32) (x3 : Int32) (x4 : Int32) (o_lanes : Nat → Int32) (o_sizes : Nat → Int32) (o_items : Nat → Int32) : Option (Int32 × (Nat → Int32)) :=
  bd1 (f_X7_isSheet x1) fun r_1 =>
  if r_1 = 0 then
    some ((-1), o_items)
  else
    bd1 (f_X7_isLane x2) fun r_2 =>
    if r_2 = 0 then
      some ((-1), o_items)
    else
      bd1 (f_X7_refuses x1 x2 x3 1 o_lanes o_sizes) fun r_3 =>
      if 0 ≤ r_3 then
        if x2 = 0 then
          f_X7_item_B67 x4.toInt8.toInt32 ((16 * x1) + x3) o_lanes o_sizes o_items
        else
          if x2 = 1 then
            f_X7_item_B67 x4.toInt16.toInt32 ((16 * x1) + x3) o_lanes o_sizes o_items
          else
            f_X7_item_B67 x4 ((16 * x1) + x3) o_lanes o_sizes o_items
      else
        some (r_3, o_items)
abbrev rm_X7_item : Room := { frames := 2, cells := 0, slots := 0, locals := 45 }
set_option maxRecDepth 100000 in
set_option maxHeartbeats 4000000 in
theorem c_X7_item (l : Launch) (dC : Nat → ClassId) (dI : Nat → Nat → Nat) (cyI cyJ cyO : ClassId) (sz : Nat) (h_o a_o_sets a_o_ringFar a_o_ringTone a_o_currents a_o_warmths a_o_depths a_o_tape a_o_readFar a_o_readTone a_o_readSea a_o_code a_o_cellAt a_o_courseAt a_o_paceAt a_o_turnsAt a_o_slowAt a_o_fuelAt a_o_ringAt a_o_pieceParts a_o_dragCell a_o_dragBy a_o_sums a_o_shares a_o_keptFar a_o_image a_o_lanes a_o_sizes a_o_items a_o_movedItems : Nat) (o_taped : Int32) (o_at : Int32) (o_wrong : Int32) (o_level : Int32) (o_noRings : Int32) (o_noTones : Int32) (o_noFuel : Int32) (o_pieces : Int32) (o_drags : Int32) (o_all : Int64) (o_noPieces : Int32) (o_noDrags : Int32) (o_kept : Int32) (o_lanes : Nat → Int32) (o_sizes : Nat → Int32) (o_items : Nat → Int32) (x1 : Int32) (x2 : Int32) (x3 : Int32) (x4 : Int32) (post : (Int32 × (Nat → Int32)) → Prop) (hf : okP (f_X7_item x1 x2 x3 x4 o_lanes o_sizes o_items) post) : Ci l (dC, dI) (tyL cyI cyJ cyO) yX7_item wsX7_item rm_X7_item [.ref h_o, .int x1, .int x2, .int x3, .int x4] sz (W_X7_item cyI cyJ cyO h_o a_o_sets a_o_ringFar a_o_ringTone a_o_currents a_o_warmths a_o_depths a_o_tape a_o_readFar a_o_readTone a_o_readSea a_o_code a_o_cellAt a_o_courseAt a_o_paceAt a_o_turnsAt a_o_slowAt a_o_fuelAt a_o_ringAt a_o_pieceParts a_o_dragCell a_o_dragBy a_o_sums a_o_shares a_o_keptFar a_o_image a_o_lanes a_o_sizes a_o_items a_o_movedItems o_taped o_at o_wrong o_level o_noRings o_noTones o_noFuel o_pieces o_drags o_all o_noPieces o_noDrags o_kept o_lanes o_sizes o_items) zN (fun r u => post (r, u)) (fun u => (W_X7_item cyI cyJ cyO h_o a_o_sets a_o_ringFar a_o_ringTone a_o_currents a_o_warmths a_o_depths a_o_tape a_o_readFar a_o_readTone a_o_readSea a_o_code a_o_cellAt a_o_courseAt a_o_paceAt a_o_turnsAt a_o_slowAt a_o_fuelAt a_o_ringAt a_o_pieceParts a_o_dragCell a_o_dragBy a_o_sums a_o_shares a_o_keptFar a_o_image a_o_lanes a_o_sizes a_o_items a_o_movedItems o_taped o_at o_wrong o_level o_noRings o_noTones o_noFuel o_pieces o_drags o_all o_noPieces o_noDrags o_kept o_lanes o_sizes u)) := by
  refine Met.ofW (cc := cX7_item) (maxL := 6) (ret := (some .int)) (by decide) rfl ?_
  intro p e s m args below meth c s₁ B hml hv
  obtain ⟨rfl, hsz, hP, hK, hD0, hZ⟩ := hv
  have hx := B.exec
  have hb := B.bytes
  have hr := B.returns
  have hts := atoms_spec (ws := wsX7_item) B.pre
  have hown : s.vm.findClass RX7 = some m.cls := findClass_of_methodNamed B.named
  have hlocks := B.notSynchronized
  subst hsz
  have hD := hD0.self (sz := s.heap.size)
  generalize hAe : va_A (W_X7_item cyI cyJ cyO h_o a_o_sets a_o_ringFar a_o_ringTone a_o_currents a_o_warmths a_o_depths a_o_tape a_o_readFar a_o_readTone a_o_readSea a_o_code a_o_cellAt a_o_courseAt a_o_paceAt a_o_turnsAt a_o_slowAt a_o_fuelAt a_o_ringAt a_o_pieceParts a_o_dragCell a_o_dragBy a_o_sums a_o_shares a_o_keptFar a_o_image a_o_lanes a_o_sizes a_o_items a_o_movedItems o_taped o_at o_wrong o_level o_noRings o_noTones o_noFuel o_pieces o_drags o_all o_noPieces o_noDrags o_kept o_lanes o_sizes o_items) s.heap.size = A at hD hZ ⊢
  have hA : ∀ q : Nat, s.heap.size ≤ q → A q := fun q h => by rw [← hAe]; exact Or.inr h
  clear hAe hD0
  have hS : va_S A s.heap s.heap [] := va_S.rf
  have hl := lv_entry ([.ref h_o, .int x1, .int x2, .int x3, .int x4]) (n := 6) (Nat.le_of_ble_eq_true rfl)
  rw [lg_entry_eq]
  generalize (lg_sl ([.ref h_o, .int x1, .int x2, .int x3, .int x4]) ++ List.replicate (6 - (lg_sl ([.ref h_o, .int x1, .int x2, .int x3, .int x4])).length) Slot.unset).toArray = ls at hl ⊢
  have hl : lv_has ls 6 [(0, .ref h_o), (1, .int x1), (2, .int x2), (3, .int x3), (4, .int x4)] := hl
  refine kW (fun Q hQ => ?_)
  have hq0 := hts _ (List.mem_cons_of_mem _ q_746)
  have hi7 : ∀ w ∈ u_ws RX7 TX7 42, w ∈ wsX7_item := fun w h => List.mem_cons_of_mem _ (inX7 w h)
  have hw := hf
  have w67 : ∀ (y0 : Int32) (y1 : Int32) (o_items : Nat → Int32) (H : Heap) (locs : List Loc), va_P (dC, dI) vwCl (W_X7_item cyI cyJ cyO h_o a_o_sets a_o_ringFar a_o_ringTone a_o_currents a_o_warmths a_o_depths a_o_tape a_o_readFar a_o_readTone a_o_readSea a_o_code a_o_cellAt a_o_courseAt a_o_paceAt a_o_turnsAt a_o_slowAt a_o_fuelAt a_o_ringAt a_o_pieceParts a_o_dragCell a_o_dragBy a_o_sums a_o_shares a_o_keptFar a_o_image a_o_lanes a_o_sizes a_o_items a_o_movedItems o_taped o_at o_wrong o_level o_noRings o_noTones o_noFuel o_pieces o_drags o_all o_noPieces o_noDrags o_kept o_lanes o_sizes o_items) H → va_D A (W_X7_item cyI cyJ cyO h_o a_o_sets a_o_ringFar a_o_ringTone a_o_currents a_o_warmths a_o_depths a_o_tape a_o_readFar a_o_readTone a_o_readSea a_o_code a_o_cellAt a_o_courseAt a_o_paceAt a_o_turnsAt a_o_slowAt a_o_fuelAt a_o_ringAt a_o_pieceParts a_o_dragCell a_o_dragBy a_o_sums a_o_shares a_o_keptFar a_o_image a_o_lanes a_o_sizes a_o_items a_o_movedItems o_taped o_at o_wrong o_level o_noRings o_noTones o_noFuel o_pieces o_drags o_all o_noPieces o_noDrags o_kept o_lanes o_sizes o_items) → va_S A s.heap H locs → ∀ (ls : Array Slot), lv_has ls 6 [] → okP (f_X7_item_B67 y0 y1 o_lanes o_sizes o_items) post → W p l e (headSpec wsX7_item rm_X7_item).room s m ([.ref h_o, .int x1, .int x2, .int x3, .int x4] : List Value).toArray below meth c H locs 0 0 Q (F0 m 67 ls [.int y0, .int y1, .ref a_o_items]) := by
    intro y0 y1 o_items H locs hP hD hS ls hl hw
    unfold f_X7_item_B67 at hw
    obtain ⟨h_1, hw⟩ := okC hw
    refine va_iast (i := y1) (x := y0) hx hb hK hP hD hS 3 0 rfl rfl h_1 dX7_item_67 (fun H locs hP hD hS => ?_)
    have hP : va_P (dC, dI) vwCl (W_X7_item cyI cyJ cyO h_o a_o_sets a_o_ringFar a_o_ringTone a_o_currents a_o_warmths a_o_depths a_o_tape a_o_readFar a_o_readTone a_o_readSea a_o_code a_o_cellAt a_o_courseAt a_o_paceAt a_o_turnsAt a_o_slowAt a_o_fuelAt a_o_ringAt a_o_pieceParts a_o_dragCell a_o_dragBy a_o_sums a_o_shares a_o_keptFar a_o_image a_o_lanes a_o_sizes a_o_items a_o_movedItems o_taped o_at o_wrong o_level o_noRings o_noTones o_noFuel o_pieces o_drags o_all o_noPieces o_noDrags o_kept o_lanes o_sizes (upd o_items y1.toNatClampNeg y0)) H := hP
    have hD : va_D A (W_X7_item cyI cyJ cyO h_o a_o_sets a_o_ringFar a_o_ringTone a_o_currents a_o_warmths a_o_depths a_o_tape a_o_readFar a_o_readTone a_o_readSea a_o_code a_o_cellAt a_o_courseAt a_o_paceAt a_o_turnsAt a_o_slowAt a_o_fuelAt a_o_ringAt a_o_pieceParts a_o_dragCell a_o_dragBy a_o_sums a_o_shares a_o_keptFar a_o_image a_o_lanes a_o_sizes a_o_items a_o_movedItems o_taped o_at o_wrong o_level o_noRings o_noTones o_noFuel o_pieces o_drags o_all o_noPieces o_noDrags o_kept o_lanes o_sizes (upd o_items y1.toNatClampNeg y0)) := hD
    refine lv_iconst (v := 1) hx hb dX7_item_68 (by decide) ?_
    rw [hQ]
    exact W.iret (v := 1) hx hb hr (fun t ht hW => ⟨⟨1, (upd o_items y1.toNatClampNeg y0), rfl, okS hw, by rw [ht]; exact hP, va_K.moved hW.alike hK, hD⟩, hS.F ht⟩) hS.2.2 dX7_item_69
  unfold f_X7_item at hw
  have hP : va_P (dC, dI) vwCl (W_X7_item cyI cyJ cyO h_o a_o_sets a_o_ringFar a_o_ringTone a_o_currents a_o_warmths a_o_depths a_o_tape a_o_readFar a_o_readTone a_o_readSea a_o_code a_o_cellAt a_o_courseAt a_o_paceAt a_o_turnsAt a_o_slowAt a_o_fuelAt a_o_ringAt a_o_pieceParts a_o_dragCell a_o_dragBy a_o_sums a_o_shares a_o_keptFar a_o_image a_o_lanes a_o_sizes a_o_items a_o_movedItems o_taped o_at o_wrong o_level o_noRings o_noTones o_noFuel o_pieces o_drags o_all o_noPieces o_noDrags o_kept o_lanes o_sizes o_items) s.heap := hP
  obtain ⟨H, hH⟩ : ∃ H, H = s.heap := ⟨_, rfl⟩
  obtain ⟨locs, hlo⟩ : ∃ x : List Loc, x = [] := ⟨_, rfl⟩
  have hP : va_P (dC, dI) vwCl (W_X7_item cyI cyJ cyO h_o a_o_sets a_o_ringFar a_o_ringTone a_o_currents a_o_warmths a_o_depths a_o_tape a_o_readFar a_o_readTone a_o_readSea a_o_code a_o_cellAt a_o_courseAt a_o_paceAt a_o_turnsAt a_o_slowAt a_o_fuelAt a_o_ringAt a_o_pieceParts a_o_dragCell a_o_dragBy a_o_sums a_o_shares a_o_keptFar a_o_image a_o_lanes a_o_sizes a_o_items a_o_movedItems o_taped o_at o_wrong o_level o_noRings o_noTones o_noFuel o_pieces o_drags o_all o_noPieces o_noDrags o_kept o_lanes o_sizes o_items) H := by rw [hH]; exact hP
  have hS : va_S A s.heap H locs := by rw [hH, hlo]; exact hS
  refine kH hH hlo ?_
  clear hH hlo
  refine lv_iload_n hx hb dX7_item_0 rfl (lv_at hl 1 rfl) ?_
  have hFc := va_free (wc := []) hD hS hA [] rfl
  refine kp_i (va_runS (As := [.int x1]) (rest := []) ⟨hx, hb, hml, hown, hts⟩ (c_X7_isSheet l dC dI cyI cyJ cyO H.size x1 _ (okb1 hw)) (va_cwS 1 hts (gdS (fun w h => List.mem_cons_of_mem _ h) q_1046 q_1047 q_8 q_1048) rfl rfl rfl (by decide +kernel) ⟨Nat.le_of_ble_eq_true rfl, Nat.le_of_ble_eq_true rfl⟩) (kpre zN_ok hK va_P0 va_D0 trivial hS hFc) rfl rfl hl.1 rfl (lv_room (Nat.le_of_ble_eq_true rfl)) dX7_item_1 ⟨Nat.le_of_ble_eq_true rfl, Nat.le_of_ble_eq_true rfl⟩) hP hD hS hFc (fun r_2 H locs hw hP hS => ?_)
  try dsimp only at hw
  clear hFc
  refine lv_if_eq (tgt := 14) hx hb dX7_item_4 (by decide) (fun c_3 => ?_) (fun c_3 => ?_)
  · replace hw := okT hw c_3
    clear c_3
    refine lv_iconst (v := (-1)) hx hb dX7_item_14 (by decide) ?_
    rw [hQ]
    exact W.iret (v := (-1)) hx hb hr (fun t ht hW => ⟨⟨(-1), o_items, rfl, okS hw, by rw [ht]; exact hP, va_K.moved hW.alike hK, hD⟩, hS.F ht⟩) hS.2.2 dX7_item_15
  · replace hw := okF hw c_3
    clear c_3
    refine lv_iload_n hx hb dX7_item_7 rfl (lv_at hl 2 rfl) ?_
    have hFc := va_free (wc := []) hD hS hA [] rfl
    refine kp_i (va_runS (As := [.int x2]) (rest := []) ⟨hx, hb, hml, hown, hts⟩ (c_X7_isLane l dC dI cyI cyJ cyO H.size x2 _ (okb1 hw)) (va_cwS 1 hts (gdS (fun w h => List.mem_cons_of_mem _ h) q_1050 q_1051 q_8 q_1052) rfl rfl rfl (by decide +kernel) ⟨Nat.le_of_ble_eq_true rfl, Nat.le_of_ble_eq_true rfl⟩) (kpre zN_ok hK va_P0 va_D0 trivial hS hFc) rfl rfl hl.1 rfl (lv_room (Nat.le_of_ble_eq_true rfl)) dX7_item_8 ⟨Nat.le_of_ble_eq_true rfl, Nat.le_of_ble_eq_true rfl⟩) hP hD hS hFc (fun r_4 H locs hw hP hS => ?_)
    try dsimp only at hw
    clear hFc
    refine lv_if_ne (tgt := 16) hx hb dX7_item_11 (by decide) (fun c_5 => ?_) (fun c_5 => ?_)
    · replace hw := okF hw c_5
      clear c_5
      refine lv_aload_n hx hb dX7_item_16 rfl (lv_at hl 0 rfl) ?_
      refine lv_iload_n hx hb dX7_item_17 rfl (lv_at hl 1 rfl) ?_
      refine lv_iload_n hx hb dX7_item_18 rfl (lv_at hl 2 rfl) ?_
      refine lv_iload_n hx hb dX7_item_19 rfl (lv_at hl 3 rfl) ?_
      refine lv_iconst (v := 1) hx hb dX7_item_20 (by decide) ?_
      have hPc := hP.sub (ws' := (W_X7_refuses cyI cyJ cyO h_o a_o_sets a_o_ringFar a_o_ringTone a_o_currents a_o_warmths a_o_depths a_o_tape a_o_readFar a_o_readTone a_o_readSea a_o_code a_o_cellAt a_o_courseAt a_o_paceAt a_o_turnsAt a_o_slowAt a_o_fuelAt a_o_ringAt a_o_pieceParts a_o_dragCell a_o_dragBy a_o_sums a_o_shares a_o_keptFar a_o_image a_o_lanes a_o_sizes a_o_items a_o_movedItems o_taped o_at o_wrong o_level o_noRings o_noTones o_noFuel o_pieces o_drags o_all o_noPieces o_noDrags o_kept o_lanes o_sizes)) [0, 1, 2] rfl
      have hDc := hD.sub (ws' := (W_X7_refuses cyI cyJ cyO h_o a_o_sets a_o_ringFar a_o_ringTone a_o_currents a_o_warmths a_o_depths a_o_tape a_o_readFar a_o_readTone a_o_readSea a_o_code a_o_cellAt a_o_courseAt a_o_paceAt a_o_turnsAt a_o_slowAt a_o_fuelAt a_o_ringAt a_o_pieceParts a_o_dragCell a_o_dragBy a_o_sums a_o_shares a_o_keptFar a_o_image a_o_lanes a_o_sizes a_o_items a_o_movedItems o_taped o_at o_wrong o_level o_noRings o_noTones o_noFuel o_pieces o_drags o_all o_noPieces o_noDrags o_kept o_lanes o_sizes)) [0, 1, 2] (by decide +kernel) rfl
      have hFc := va_free (wc := (W_X7_refuses cyI cyJ cyO h_o a_o_sets a_o_ringFar a_o_ringTone a_o_currents a_o_warmths a_o_depths a_o_tape a_o_readFar a_o_readTone a_o_readSea a_o_code a_o_cellAt a_o_courseAt a_o_paceAt a_o_turnsAt a_o_slowAt a_o_fuelAt a_o_ringAt a_o_pieceParts a_o_dragCell a_o_dragBy a_o_sums a_o_shares a_o_keptFar a_o_image a_o_lanes a_o_sizes a_o_items a_o_movedItems o_taped o_at o_wrong o_level o_noRings o_noTones o_noFuel o_pieces o_drags o_all o_noPieces o_noDrags o_kept o_lanes o_sizes)) hD hS hA [0, 1, 2] rfl
      refine kc_i (wr := [(a_o_items, .inl (cyI, 64, .inl o_items))]) (va_runV (As := [.int x1, .int x2, .int x3, .int 1]) (rest := []) ⟨hx, hb, hml, hown, hts⟩ (c_X7_refuses l dC dI cyI cyJ cyO H.size h_o a_o_sets a_o_ringFar a_o_ringTone a_o_currents a_o_warmths a_o_depths a_o_tape a_o_readFar a_o_readTone a_o_readSea a_o_code a_o_cellAt a_o_courseAt a_o_paceAt a_o_turnsAt a_o_slowAt a_o_fuelAt a_o_ringAt a_o_pieceParts a_o_dragCell a_o_dragBy a_o_sums a_o_shares a_o_keptFar a_o_image a_o_lanes a_o_sizes a_o_items a_o_movedItems o_taped o_at o_wrong o_level o_noRings o_noTones o_noFuel o_pieces o_drags o_all o_noPieces o_noDrags o_kept o_lanes o_sizes x1 x2 x3 1 _ (okb1 hw)) (cwV 4 hts (gdV (fun w h => List.mem_cons_of_mem _ h) q_1053 q_1055 qs_43 q_8 q_1056) rfl rfl rfl (by decide +kernel) ⟨Nat.le_of_ble_eq_true rfl, Nat.le_of_ble_eq_true rfl⟩) ⟨(kpre zN_ok hK hPc hDc trivial hS hFc).1, va_recv hK hP (ci := 7) (q0 := 0) rfl rfl, (kpre zN_ok hK hPc hDc trivial hS hFc).2⟩ rfl rfl hl.1 rfl (lv_room (Nat.le_of_ble_eq_true rfl)) dX7_item_21 ⟨Nat.le_of_ble_eq_true rfl, Nat.le_of_ble_eq_true rfl⟩) hP hD hS hFc [0, 1, 2] [3] rfl rfl (by decide +kernel) (by decide +kernel) (fun r_6 u H locs hw hP hD hS => ?_)
      try dsimp only at hw
      have hP : va_P (dC, dI) vwCl (W_X7_item cyI cyJ cyO h_o a_o_sets a_o_ringFar a_o_ringTone a_o_currents a_o_warmths a_o_depths a_o_tape a_o_readFar a_o_readTone a_o_readSea a_o_code a_o_cellAt a_o_courseAt a_o_paceAt a_o_turnsAt a_o_slowAt a_o_fuelAt a_o_ringAt a_o_pieceParts a_o_dragCell a_o_dragBy a_o_sums a_o_shares a_o_keptFar a_o_image a_o_lanes a_o_sizes a_o_items a_o_movedItems o_taped o_at o_wrong o_level o_noRings o_noTones o_noFuel o_pieces o_drags o_all o_noPieces o_noDrags o_kept o_lanes o_sizes o_items) H := hP.sub [1, 2, 3, 0] rfl
      have hD : va_D A (W_X7_item cyI cyJ cyO h_o a_o_sets a_o_ringFar a_o_ringTone a_o_currents a_o_warmths a_o_depths a_o_tape a_o_readFar a_o_readTone a_o_readSea a_o_code a_o_cellAt a_o_courseAt a_o_paceAt a_o_turnsAt a_o_slowAt a_o_fuelAt a_o_ringAt a_o_pieceParts a_o_dragCell a_o_dragBy a_o_sums a_o_shares a_o_keptFar a_o_image a_o_lanes a_o_sizes a_o_items a_o_movedItems o_taped o_at o_wrong o_level o_noRings o_noTones o_noFuel o_pieces o_drags o_all o_noPieces o_noDrags o_kept o_lanes o_sizes o_items) := hD.sub [1, 2, 3, 0] (by decide +kernel) rfl
      clear hPc hDc hFc
      refine lv_istore (lv' := [(5, .int r_6), (0, .ref h_o), (1, .int x1), (2, .int x2), (3, .int x3), (4, .int x4)]) hx hb dX7_item_24 hl (by decide) rfl (fun ls hl => ?_)
      refine lv_iload hx hb dX7_item_26 (lv_at hl 0 rfl) ?_
      refine lv_if_ge (tgt := 34) hx hb dX7_item_28 (by decide) (fun c_7 => ?_) (fun c_7 => ?_)
      · replace hw := okT hw c_7
        clear c_7
        refine lv_aload_n hx hb dX7_item_34 rfl (lv_at hl 1 rfl) ?_
        refine va_get (D := (dC, dI)) (ci := 7) (v := .ref a_o_items) (C := RX7) (T := TX7) (N := 42) hx hb hts hi7 hown hK hP 0 rfl rfl 40 (by decide) hq0 (fun _ h9 => h9) rfl dX7_item_35 ?_
        refine lv_bipush (v := 16) hx hb dX7_item_38 (by decide) ?_
        refine lv_iload_n hx hb dX7_item_40 rfl (lv_at hl 2 rfl) ?_
        refine lv_imul hx hb dX7_item_41 ?_
        refine lv_iload_n hx hb dX7_item_42 rfl (lv_at hl 4 rfl) ?_
        refine lv_iadd hx hb dX7_item_43 ?_
        refine lv_iload_n hx hb dX7_item_44 rfl (lv_at hl 3 rfl) ?_
        refine lv_if_ne (tgt := 54) hx hb dX7_item_45 (by decide) (fun c_8 => ?_) (fun c_8 => ?_)
        · replace hw := okF hw c_8
          clear c_8
          refine lv_iload_n hx hb dX7_item_54 rfl (lv_at hl 3 rfl) ?_
          refine lv_iconst (v := 1) hx hb dX7_item_55 (by decide) ?_
          refine lv_icmp_ne (tgt := 65) hx hb dX7_item_56 (by decide) (fun c_9 => ?_) (fun c_9 => ?_)
          · replace hw := okF hw c_9
            clear c_9
            refine lv_iload hx hb dX7_item_65 (lv_at hl 5 rfl) ?_
            exact w67 x4 ((16 * x1) + x3) o_items _ _ hP hD hS _ (lv_sub hl [] rfl) hw
          · replace hw := okT hw c_9
            clear c_9
            refine lv_iload hx hb dX7_item_59 (lv_at hl 5 rfl) ?_
            refine lv_i2s (v := x4.toInt16.toInt32) hx hb dX7_item_61 rfl ?_
            refine lv_goto (tgt := 67) hx hb dX7_item_62 (by decide) ?_
            exact w67 x4.toInt16.toInt32 ((16 * x1) + x3) o_items _ _ hP hD hS _ (lv_sub hl [] rfl) hw
        · replace hw := okT hw c_8
          clear c_8
          refine lv_iload hx hb dX7_item_48 (lv_at hl 5 rfl) ?_
          refine lv_i2b (v := x4.toInt8.toInt32) hx hb dX7_item_50 rfl ?_
          refine lv_goto (tgt := 67) hx hb dX7_item_51 (by decide) ?_
          exact w67 x4.toInt8.toInt32 ((16 * x1) + x3) o_items _ _ hP hD hS _ (lv_sub hl [] rfl) hw
      · replace hw := okF hw c_7
        clear c_7
        refine lv_iload hx hb dX7_item_31 (lv_at hl 0 rfl) ?_
        rw [hQ]
        exact W.iret (v := r_6) hx hb hr (fun t ht hW => ⟨⟨r_6, o_items, rfl, okS hw, by rw [ht]; exact hP, va_K.moved hW.alike hK, hD⟩, hS.F ht⟩) hS.2.2 dX7_item_33
    · replace hw := okT hw c_5
      clear c_5
      refine lv_iconst (v := (-1)) hx hb dX7_item_14 (by decide) ?_
      rw [hQ]
      exact W.iret (v := (-1)) hx hb hr (fun t ht hW => ⟨⟨(-1), o_items, rfl, okS hw, by rw [ht]; exact hP, va_K.moved hW.alike hK, hD⟩, hS.F ht⟩) hS.2.2 dX7_item_15
/-! ===== X7_film ===== -/
theorem dX7_film_0 : decode cX7_film 0 = .ok (.iload_n 1, 1) := by decide +kernel
theorem dX7_film_1 : decode cX7_film 1 = .ok (.ifCond .lt 17, 3) := by decide +kernel
theorem dX7_film_4 : decode cX7_film 4 = .ok (.iload_n 2, 1) := by decide +kernel
theorem dX7_film_5 : decode cX7_film 5 = .ok (.invokestatic 259, 3) := by decide +kernel
theorem dX7_film_8 : decode cX7_film 8 = .ok (.ifCond .eq 10, 3) := by decide +kernel
theorem dX7_film_11 : decode cX7_film 11 = .ok (.iload_n 3, 1) := by decide +kernel
theorem dX7_film_12 : decode cX7_film 12 = .ok (.invokestatic 262, 3) := by decide +kernel
theorem dX7_film_15 : decode cX7_film 15 = .ok (.ifCond .ne 5, 3) := by decide +kernel
theorem dX7_film_18 : decode cX7_film 18 = .ok (.iconst (-1), 1) := by decide +kernel
theorem dX7_film_19 : decode cX7_film 19 = .ok (.ireturn, 1) := by decide +kernel
theorem dX7_film_20 : decode cX7_film 20 = .ok (.aload_n 0, 1) := by decide +kernel
theorem dX7_film_21 : decode cX7_film 21 = .ok (.iload_n 2, 1) := by decide +kernel
theorem dX7_film_22 : decode cX7_film 22 = .ok (.iload_n 3, 1) := by decide +kernel
theorem dX7_film_23 : decode cX7_film 23 = .ok (.iload 4, 2) := by decide +kernel
theorem dX7_film_25 : decode cX7_film 25 = .ok (.aload_n 0, 1) := by decide +kernel
theorem dX7_film_26 : decode cX7_film 26 = .ok (.getfield 7, 3) := by decide +kernel
theorem dX7_film_29 : decode cX7_film 29 = .ok (.iconst 2, 1) := by decide +kernel
theorem dX7_film_30 : decode cX7_film 30 = .ok (.iaload, 1) := by decide +kernel
theorem dX7_film_31 : decode cX7_film 31 = .ok (.iconst 1, 1) := by decide +kernel
theorem dX7_film_32 : decode cX7_film 32 = .ok (.iadd, 1) := by decide +kernel
theorem dX7_film_33 : decode cX7_film 33 = .ok (.invokevirtual 265, 3) := by decide +kernel
theorem dX7_film_36 : decode cX7_film 36 = .ok (.istore 5, 2) := by decide +kernel
theorem dX7_film_38 : decode cX7_film 38 = .ok (.iload 5, 2) := by decide +kernel
theorem dX7_film_40 : decode cX7_film 40 = .ok (.ifCond .ge 6, 3) := by decide +kernel
theorem dX7_film_43 : decode cX7_film 43 = .ok (.iload 5, 2) := by decide +kernel
theorem dX7_film_45 : decode cX7_film 45 = .ok (.ireturn, 1) := by decide +kernel
theorem dX7_film_46 : decode cX7_film 46 = .ok (.aload_n 0, 1) := by decide +kernel
theorem dX7_film_47 : decode cX7_film 47 = .ok (.iload_n 1, 1) := by decide +kernel
theorem dX7_film_48 : decode cX7_film 48 = .ok (.invokevirtual 201, 3) := by decide +kernel
theorem dX7_film_51 : decode cX7_film 51 = .ok (.ifCond .ne 6, 3) := by decide +kernel
theorem dX7_film_54 : decode cX7_film 54 = .ok (.bipush (-2), 2) := by decide +kernel
theorem dX7_film_56 : decode cX7_film 56 = .ok (.ireturn, 1) := by decide +kernel
theorem dX7_film_57 : decode cX7_film 57 = .ok (.iconst 0, 1) := by decide +kernel
theorem dX7_film_58 : decode cX7_film 58 = .ok (.istore 6, 2) := by decide +kernel
theorem dX7_film_60 : decode cX7_film 60 = .ok (.iload 6, 2) := by decide +kernel
theorem dX7_film_62 : decode cX7_film 62 = .ok (.aload_n 0, 1) := by decide +kernel
theorem dX7_film_63 : decode cX7_film 63 = .ok (.getfield 7, 3) := by decide +kernel
theorem dX7_film_66 : decode cX7_film 66 = .ok (.iconst 2, 1) := by decide +kernel
theorem dX7_film_67 : decode cX7_film 67 = .ok (.iaload, 1) := by decide +kernel
theorem dX7_film_68 : decode cX7_film 68 = .ok (.if_icmp .gt 31, 3) := by decide +kernel
theorem dX7_film_71 : decode cX7_film 71 = .ok (.aload_n 0, 1) := by decide +kernel
theorem dX7_film_72 : decode cX7_film 72 = .ok (.getfield 92, 3) := by decide +kernel
theorem dX7_film_75 : decode cX7_film 75 = .ok (.bipush 16, 2) := by decide +kernel
theorem dX7_film_77 : decode cX7_film 77 = .ok (.iload_n 2, 1) := by decide +kernel
theorem dX7_film_78 : decode cX7_film 78 = .ok (.imul, 1) := by decide +kernel
theorem dX7_film_79 : decode cX7_film 79 = .ok (.iload 4, 2) := by decide +kernel
theorem dX7_film_81 : decode cX7_film 81 = .ok (.iadd, 1) := by decide +kernel
theorem dX7_film_82 : decode cX7_film 82 = .ok (.iload 6, 2) := by decide +kernel
theorem dX7_film_84 : decode cX7_film 84 = .ok (.iadd, 1) := by decide +kernel
theorem dX7_film_85 : decode cX7_film 85 = .ok (.aload_n 0, 1) := by decide +kernel
theorem dX7_film_86 : decode cX7_film 86 = .ok (.getfield 43, 3) := by decide +kernel
theorem dX7_film_89 : decode cX7_film 89 = .ok (.iload 6, 2) := by decide +kernel
theorem dX7_film_91 : decode cX7_film 91 = .ok (.iaload, 1) := by decide +kernel
theorem dX7_film_92 : decode cX7_film 92 = .ok (.iastore, 1) := by decide +kernel
theorem dX7_film_93 : decode cX7_film 93 = .ok (.iinc 6 1, 3) := by decide +kernel
theorem dX7_film_96 : decode cX7_film 96 = .ok (.goto (-36), 3) := by decide +kernel
theorem dX7_film_99 : decode cX7_film 99 = .ok (.aload_n 0, 1) := by decide +kernel
theorem dX7_film_100 : decode cX7_film 100 = .ok (.getfield 7, 3) := by decide +kernel
theorem dX7_film_103 : decode cX7_film 103 = .ok (.iconst 2, 1) := by decide +kernel
theorem dX7_film_104 : decode cX7_film 104 = .ok (.iaload, 1) := by decide +kernel
theorem dX7_film_105 : decode cX7_film 105 = .ok (.iconst 1, 1) := by decide +kernel
theorem dX7_film_106 : decode cX7_film 106 = .ok (.iadd, 1) := by decide +kernel
theorem dX7_film_107 : decode cX7_film 107 = .ok (.ireturn, 1) := by decide +kernel
abbrev W_X7_film (cyI cyJ cyO : ClassId) (h_o a_o_sets a_o_ringFar a_o_ringTone a_o_currents a_o_warmths a_o_depths a_o_tape a_o_readFar a_o_readTone a_o_readSea a_o_code a_o_cellAt a_o_courseAt a_o_paceAt a_o_turnsAt a_o_slowAt a_o_fuelAt a_o_ringAt a_o_pieceParts a_o_dragCell a_o_dragBy a_o_sums a_o_shares a_o_keptFar a_o_image a_o_lanes a_o_sizes a_o_items a_o_movedItems : Nat) (o_taped : Int32) (o_at : Int32) (o_wrong : Int32) (o_level : Int32) (o_noRings : Int32) (o_noTones : Int32) (o_noFuel : Int32) (o_pieces : Int32) (o_drags : Int32) (o_all : Int64) (o_noPieces : Int32) (o_noDrags : Int32) (o_kept : Int32) (o_sets : Nat → Int32) (o_ringFar : Nat → Int32) (o_ringTone : Nat → Int32) (o_code : Nat → Int32) (o_cellAt : Nat → Int32) (o_courseAt : Nat → Int32) (o_paceAt : Nat → Int32) (o_turnsAt : Nat → Int32) (o_slowAt : Nat → Int32) (o_fuelAt : Nat → Int32) (o_ringAt : Nat → Int32) (o_lanes : Nat → Int32) (o_sizes : Nat → Int32) (o_items : Nat → Int32) : va_W := [(h_o, .inr (7, [.ref a_o_sets, .ref a_o_ringFar, .ref a_o_ringTone, .ref a_o_currents, .ref a_o_warmths, .ref a_o_depths, .ref a_o_tape, .int o_taped, .int o_at, .int o_wrong, .ref a_o_readFar, .ref a_o_readTone, .ref a_o_readSea, .ref a_o_code, .ref a_o_cellAt, .ref a_o_courseAt, .ref a_o_paceAt, .ref a_o_turnsAt, .ref a_o_slowAt, .ref a_o_fuelAt, .ref a_o_ringAt, .int o_level, .int o_noRings, .int o_noTones, .int o_noFuel, .int o_pieces, .ref a_o_pieceParts, .int o_drags, .ref a_o_dragCell, .ref a_o_dragBy, .ref a_o_sums, .long o_all, .int o_noPieces, .int o_noDrags, .ref a_o_shares, .ref a_o_keptFar, .ref a_o_image, .int o_kept, .ref a_o_lanes, .ref a_o_sizes, .ref a_o_items, .ref a_o_movedItems])), (a_o_sets, .inl (cyI, 8, .inl o_sets)), (a_o_ringFar, .inl (cyI, 7, .inl o_ringFar)), (a_o_ringTone, .inl (cyI, 7, .inl o_ringTone)), (a_o_code, .inl (cyI, 7, .inl o_code)), (a_o_cellAt, .inl (cyI, 7, .inl o_cellAt)), (a_o_courseAt, .inl (cyI, 7, .inl o_courseAt)), (a_o_paceAt, .inl (cyI, 7, .inl o_paceAt)), (a_o_turnsAt, .inl (cyI, 7, .inl o_turnsAt)), (a_o_slowAt, .inl (cyI, 7, .inl o_slowAt)), (a_o_fuelAt, .inl (cyI, 7, .inl o_fuelAt)), (a_o_ringAt, .inl (cyI, 7, .inl o_ringAt)), (a_o_lanes, .inl (cyI, 4, .inl o_lanes)), (a_o_sizes, .inl (cyI, 4, .inl o_sizes)), (a_o_items, .inl (cyI, 64, .inl o_items))]
def f_X7_film_L60b (k60 : Int32 → Int32 → Int32 → Int32 → Int32 → Int32 → Int32 → (Nat → Int32) → (Nat → Int32) → (Nat → Int32) → (Nat → Int32) → (Nat → Int32) → (Nat → Int32) → (Nat → Int32) → (Nat → Int32) → (Nat → Int32) → (Nat → Int32) → (Nat → Int32) → (Nat → Int32) → (Nat → Int32) → (Nat → Int32) → Option (Int32 × Int32 × Int32 × Int32 × Int32 × (Nat → Int32) × (Nat → Int32) × (Nat → Int32) × (Nat → Int32) × (Nat → Int32) × (Nat → Int32) × (Nat → Int32) × (Nat → Int32) × (Nat → Int32))) (v2 : Int32) (v4 : Int32) (v6 : Int32) (o_level : Int32) (o_noRings : Int32) (o_noTones : Int32) (o_noFuel : Int32) (o_sets : Nat → Int32) (o_ringFar : Nat → Int32) (o_ringTone : Nat → Int32) (o_code : Nat → Int32) (o_cellAt : Nat → Int32) (o_courseAt : Nat → Int32) (o_paceAt : Nat → Int32) (o_turnsAt : Nat → Int32) (o_slowAt : Nat → Int32) (o_fuelAt : Nat → Int32) (o_ringAt : Nat → Int32) (o_lanes : Nat → Int32) (o_sizes : Nat → Int32) (o_items : Nat → Int32) : Option (Int32 × Int32 × Int32 × Int32 × Int32 × (Nat → Int32) × (Nat → Int32) × (Nat → Int32) × (Nat → Int32) × (Nat → Int32) × (Nat → Int32) × (Nat → Int32) × (Nat → Int32) × (Nat → Int32)) :=
  if (o_sets 2) < v6 then
    some ((o_sets 2) + 1, o_level, o_noRings, o_noTones, o_noFuel, o_code, o_cellAt, o_courseAt, o_paceAt, o_turnsAt, o_slowAt, o_fuelAt, o_ringAt, o_items)
  else
    chk (¬ (v6 < 0 ∨ 7 ≤ v6.toNatClampNeg)) <|
    nm (o_cellAt v6.toNatClampNeg) fun x_1 =>
    chk (¬ (((16 * v2) + v4) + v6 < 0 ∨ 64 ≤ (((16 * v2) + v4) + v6).toNatClampNeg)) <|
    nm (v6 + 1) fun x_2 =>
    k60 v2 v4 x_2 o_level o_noRings o_noTones o_noFuel o_sets o_ringFar o_ringTone o_code o_cellAt o_courseAt o_paceAt o_turnsAt o_slowAt o_fuelAt o_ringAt o_lanes o_sizes (upd o_items (((16 * v2) + v4) + v6).toNatClampNeg x_1)
def f_X7_film_L60 : Nat → Int32 → Int32 → Int32 → Int32 → Int32 → Int32 → Int32 → (Nat → Int32) → (Nat → Int32) → (Nat → Int32) → (Nat → Int32) → (Nat → Int32) → (Nat → Int32) → (Nat → Int32) → (Nat → Int32) → (Nat → Int32) → (Nat → Int32) → (Nat → Int32) → (Nat → Int32) → (Nat → Int32) → (Nat → Int32) → Option (Int32 × Int32 × Int32 × Int32 × Int32 × (Nat → Int32) × (Nat → Int32) × (Nat → Int32) × (Nat → Int32) × (Nat → Int32) × (Nat → Int32) × (Nat → Int32) × (Nat → Int32) × (Nat → Int32))
  | 0 => fun _ _ _ _ _ _ _ _ _ _ _ _ _ _ _ _ _ _ _ _ _ => none
  | n + 1 => f_X7_film_L60b (f_X7_film_L60 n)
def f_X7_film (x1 : Int32) (x2 : Int32) (x3 : Int32) (x4 : Int32) (o_level : Int32) (o_noRings : Int32) (o_noTones : Int32) (o_noFuel : Int32) (o_sets : Nat → Int32) (o_ringFar : Nat → Int32) (o_ringTone : Nat → Int32) (o_code : Nat → Int32) (o_cellAt : Nat → Int32) (o_courseAt : Nat → Int32) (o_paceAt : Nat → Int32) (o_turnsAt : Nat → Int32) (o_slowAt : Nat → Int32) (o_fuelAt : Nat → Int32) (o_ringAt : Nat → Int32) (o_lanes : Nat → Int32) (o_sizes : Nat → Int32) (o_items : Nat → Int32) : Option (Int32 × Int32 × Int32 × Int32 × Int32 × (Nat → Int32) × (Nat → Int32) × (Nat → Int32) × (Nat → Int32) × (Nat → Int32) × (Nat → Int32) × (Nat → Int32) × (Nat → Int32) × (Nat → Int32)) :=
  if x1 < 0 then
    some ((-1), o_level, o_noRings, o_noTones, o_noFuel, o_code, o_cellAt, o_courseAt, o_paceAt, o_turnsAt, o_slowAt, o_fuelAt, o_ringAt, o_items)
  else
    bd1 (f_X7_isSheet x2) fun r_3 =>
    if r_3 = 0 then
      some ((-1), o_level, o_noRings, o_noTones, o_noFuel, o_code, o_cellAt, o_courseAt, o_paceAt, o_turnsAt, o_slowAt, o_fuelAt, o_ringAt, o_items)
    else
      bd1 (f_X7_isLane x3) fun r_4 =>
      if r_4 = 0 then
        some ((-1), o_level, o_noRings, o_noTones, o_noFuel, o_code, o_cellAt, o_courseAt, o_paceAt, o_turnsAt, o_slowAt, o_fuelAt, o_ringAt, o_items)
      else
        bd1 (f_X7_refuses x2 x3 x4 ((o_sets 2) + 1) o_lanes o_sizes) fun r_5 =>
        if 0 ≤ r_5 then
          bd13 (f_X7_finds x1 o_level o_noRings o_noTones o_noFuel o_sets o_ringFar o_ringTone o_code o_cellAt o_courseAt o_paceAt o_turnsAt o_slowAt o_fuelAt o_ringAt) fun r_6 w_7 w_8 w_9 w_10 w_11 w_12 w_13 w_14 w_15 w_16 w_17 w_18 =>
          if r_6 = 0 then
            some ((-2), w_7, w_8, w_9, w_10, w_11, w_12, w_13, w_14, w_15, w_16, w_17, w_18, o_items)
          else
            f_X7_film_L60 FU x2 x4 0 w_7 w_8 w_9 w_10 o_sets o_ringFar o_ringTone w_11 w_12 w_13 w_14 w_15 w_16 w_17 w_18 o_lanes o_sizes o_items
        else
          some (r_5, o_level, o_noRings, o_noTones, o_noFuel, o_code, o_cellAt, o_courseAt, o_paceAt, o_turnsAt, o_slowAt, o_fuelAt, o_ringAt, o_items)
abbrev rm_X7_film : Room := { frames := 5, cells := 0, slots := 0, locals := 121 }
set_option maxRecDepth 100000 in
set_option maxHeartbeats 4000000 in
theorem c_X7_film (l : Launch) (dC : Nat → ClassId) (dI : Nat → Nat → Nat) (cyI cyJ cyO : ClassId) (sz : Nat) (h_o a_o_sets a_o_ringFar a_o_ringTone a_o_currents a_o_warmths a_o_depths a_o_tape a_o_readFar a_o_readTone a_o_readSea a_o_code a_o_cellAt a_o_courseAt a_o_paceAt a_o_turnsAt a_o_slowAt a_o_fuelAt a_o_ringAt a_o_pieceParts a_o_dragCell a_o_dragBy a_o_sums a_o_shares a_o_keptFar a_o_image a_o_lanes a_o_sizes a_o_items a_o_movedItems : Nat) (o_taped : Int32) (o_at : Int32) (o_wrong : Int32) (o_level : Int32) (o_noRings : Int32) (o_noTones : Int32) (o_noFuel : Int32) (o_pieces : Int32) (o_drags : Int32) (o_all : Int64) (o_noPieces : Int32) (o_noDrags : Int32) (o_kept : Int32) (o_sets : Nat → Int32) (o_ringFar : Nat → Int32) (o_ringTone : Nat → Int32) (o_code : Nat → Int32) (o_cellAt : Nat → Int32) (o_courseAt : Nat → Int32) (o_paceAt : Nat → Int32) (o_turnsAt : Nat → Int32) (o_slowAt : Nat → Int32) (o_fuelAt : Nat → Int32) (o_ringAt : Nat → Int32) (o_lanes : Nat → Int32) (o_sizes : Nat → Int32) (o_items : Nat → Int32) (x1 : Int32) (x2 : Int32) (x3 : Int32) (x4 : Int32) (post : (Int32 × Int32 × Int32 × Int32 × Int32 × (Nat → Int32) × (Nat → Int32) × (Nat → Int32) × (Nat → Int32) × (Nat → Int32) × (Nat → Int32) × (Nat → Int32) × (Nat → Int32) × (Nat → Int32)) → Prop) (hf : okP (f_X7_film x1 x2 x3 x4 o_level o_noRings o_noTones o_noFuel o_sets o_ringFar o_ringTone o_code o_cellAt o_courseAt o_paceAt o_turnsAt o_slowAt o_fuelAt o_ringAt o_lanes o_sizes o_items) post) : Ci l (dC, dI) (tyL cyI cyJ cyO) yX7_film wsX7_film rm_X7_film [.ref h_o, .int x1, .int x2, .int x3, .int x4] sz (W_X7_film cyI cyJ cyO h_o a_o_sets a_o_ringFar a_o_ringTone a_o_currents a_o_warmths a_o_depths a_o_tape a_o_readFar a_o_readTone a_o_readSea a_o_code a_o_cellAt a_o_courseAt a_o_paceAt a_o_turnsAt a_o_slowAt a_o_fuelAt a_o_ringAt a_o_pieceParts a_o_dragCell a_o_dragBy a_o_sums a_o_shares a_o_keptFar a_o_image a_o_lanes a_o_sizes a_o_items a_o_movedItems o_taped o_at o_wrong o_level o_noRings o_noTones o_noFuel o_pieces o_drags o_all o_noPieces o_noDrags o_kept o_sets o_ringFar o_ringTone o_code o_cellAt o_courseAt o_paceAt o_turnsAt o_slowAt o_fuelAt o_ringAt o_lanes o_sizes o_items) zN (fun r u => post (r, u)) (fun u => (W_X7_film cyI cyJ cyO h_o a_o_sets a_o_ringFar a_o_ringTone a_o_currents a_o_warmths a_o_depths a_o_tape a_o_readFar a_o_readTone a_o_readSea a_o_code a_o_cellAt a_o_courseAt a_o_paceAt a_o_turnsAt a_o_slowAt a_o_fuelAt a_o_ringAt a_o_pieceParts a_o_dragCell a_o_dragBy a_o_sums a_o_shares a_o_keptFar a_o_image a_o_lanes a_o_sizes a_o_items a_o_movedItems o_taped o_at o_wrong u.1 u.2.1 u.2.2.1 u.2.2.2.1 o_pieces o_drags o_all o_noPieces o_noDrags o_kept o_sets o_ringFar o_ringTone u.2.2.2.2.1 u.2.2.2.2.2.1 u.2.2.2.2.2.2.1 u.2.2.2.2.2.2.2.1 u.2.2.2.2.2.2.2.2.1 u.2.2.2.2.2.2.2.2.2.1 u.2.2.2.2.2.2.2.2.2.2.1 u.2.2.2.2.2.2.2.2.2.2.2.1 o_lanes o_sizes u.2.2.2.2.2.2.2.2.2.2.2.2)) := by
  refine Met.ofW (cc := cX7_film) (maxL := 7) (ret := (some .int)) (by decide) rfl ?_
  intro p e s m args below meth c s₁ B hml hv
  obtain ⟨rfl, hsz, hP, hK, hD0, hZ⟩ := hv
  have hx := B.exec
  have hb := B.bytes
  have hr := B.returns
  have hts := atoms_spec (ws := wsX7_film) B.pre
  have hown : s.vm.findClass RX7 = some m.cls := findClass_of_methodNamed B.named
  have hlocks := B.notSynchronized
  subst hsz
  have hD := hD0.self (sz := s.heap.size)
  generalize hAe : va_A (W_X7_film cyI cyJ cyO h_o a_o_sets a_o_ringFar a_o_ringTone a_o_currents a_o_warmths a_o_depths a_o_tape a_o_readFar a_o_readTone a_o_readSea a_o_code a_o_cellAt a_o_courseAt a_o_paceAt a_o_turnsAt a_o_slowAt a_o_fuelAt a_o_ringAt a_o_pieceParts a_o_dragCell a_o_dragBy a_o_sums a_o_shares a_o_keptFar a_o_image a_o_lanes a_o_sizes a_o_items a_o_movedItems o_taped o_at o_wrong o_level o_noRings o_noTones o_noFuel o_pieces o_drags o_all o_noPieces o_noDrags o_kept o_sets o_ringFar o_ringTone o_code o_cellAt o_courseAt o_paceAt o_turnsAt o_slowAt o_fuelAt o_ringAt o_lanes o_sizes o_items) s.heap.size = A at hD hZ ⊢
  have hA : ∀ q : Nat, s.heap.size ≤ q → A q := fun q h => by rw [← hAe]; exact Or.inr h
  clear hAe hD0
  have hS : va_S A s.heap s.heap [] := va_S.rf
  have hl := lv_entry ([.ref h_o, .int x1, .int x2, .int x3, .int x4]) (n := 7) (Nat.le_of_ble_eq_true rfl)
  rw [lg_entry_eq]
  generalize (lg_sl ([.ref h_o, .int x1, .int x2, .int x3, .int x4]) ++ List.replicate (7 - (lg_sl ([.ref h_o, .int x1, .int x2, .int x3, .int x4])).length) Slot.unset).toArray = ls at hl ⊢
  have hl : lv_has ls 7 [(0, .ref h_o), (1, .int x1), (2, .int x2), (3, .int x3), (4, .int x4)] := hl
  refine kW (fun Q hQ => ?_)
  have hq0 := hts _ (List.mem_cons_of_mem _ q_706)
  have hi7 : ∀ w ∈ u_ws RX7 TX7 42, w ∈ wsX7_film := fun w h => List.mem_cons_of_mem _ (inX7 w h)
  have hq2 := hts _ (List.mem_cons_of_mem _ q_746)
  have hq3 := hts _ (List.mem_cons_of_mem _ q_720)
  have hw := hf
  have w60 : ∀ (n : Nat), ∀ (v2 : Int32) (v4 : Int32) (v6 : Int32) (o_level : Int32) (o_noRings : Int32) (o_noTones : Int32) (o_noFuel : Int32) (o_code : Nat → Int32) (o_cellAt : Nat → Int32) (o_courseAt : Nat → Int32) (o_paceAt : Nat → Int32) (o_turnsAt : Nat → Int32) (o_slowAt : Nat → Int32) (o_fuelAt : Nat → Int32) (o_ringAt : Nat → Int32) (o_items : Nat → Int32) (H : Heap) (locs : List Loc), va_P (dC, dI) vwCl (W_X7_film cyI cyJ cyO h_o a_o_sets a_o_ringFar a_o_ringTone a_o_currents a_o_warmths a_o_depths a_o_tape a_o_readFar a_o_readTone a_o_readSea a_o_code a_o_cellAt a_o_courseAt a_o_paceAt a_o_turnsAt a_o_slowAt a_o_fuelAt a_o_ringAt a_o_pieceParts a_o_dragCell a_o_dragBy a_o_sums a_o_shares a_o_keptFar a_o_image a_o_lanes a_o_sizes a_o_items a_o_movedItems o_taped o_at o_wrong o_level o_noRings o_noTones o_noFuel o_pieces o_drags o_all o_noPieces o_noDrags o_kept o_sets o_ringFar o_ringTone o_code o_cellAt o_courseAt o_paceAt o_turnsAt o_slowAt o_fuelAt o_ringAt o_lanes o_sizes o_items) H → va_D A (W_X7_film cyI cyJ cyO h_o a_o_sets a_o_ringFar a_o_ringTone a_o_currents a_o_warmths a_o_depths a_o_tape a_o_readFar a_o_readTone a_o_readSea a_o_code a_o_cellAt a_o_courseAt a_o_paceAt a_o_turnsAt a_o_slowAt a_o_fuelAt a_o_ringAt a_o_pieceParts a_o_dragCell a_o_dragBy a_o_sums a_o_shares a_o_keptFar a_o_image a_o_lanes a_o_sizes a_o_items a_o_movedItems o_taped o_at o_wrong o_level o_noRings o_noTones o_noFuel o_pieces o_drags o_all o_noPieces o_noDrags o_kept o_sets o_ringFar o_ringTone o_code o_cellAt o_courseAt o_paceAt o_turnsAt o_slowAt o_fuelAt o_ringAt o_lanes o_sizes o_items) → va_S A s.heap H locs → ∀ (ls : Array Slot), lv_has ls 7 [(0, .ref h_o), (2, .int v2), (4, .int v4), (6, .int v6)] → okP (f_X7_film_L60 n v2 v4 v6 o_level o_noRings o_noTones o_noFuel o_sets o_ringFar o_ringTone o_code o_cellAt o_courseAt o_paceAt o_turnsAt o_slowAt o_fuelAt o_ringAt o_lanes o_sizes o_items) post → W p l e (headSpec wsX7_film rm_X7_film).room s m ([.ref h_o, .int x1, .int x2, .int x3, .int x4] : List Value).toArray below meth c H locs 0 0 Q (F0 m 60 ls []) := by
    intro n
    induction n with
    | zero =>
      intro v2 v4 v6 o_level o_noRings o_noTones o_noFuel o_code o_cellAt o_courseAt o_paceAt o_turnsAt o_slowAt o_fuelAt o_ringAt o_items H locs hP hD hS ls hl hw
      exact (ok0 hw).elim
    | succ n60 ih60 =>
      intro v2 v4 v6 o_level o_noRings o_noTones o_noFuel o_code o_cellAt o_courseAt o_paceAt o_turnsAt o_slowAt o_fuelAt o_ringAt o_items H locs hP hD hS ls hl hw
      replace hw : okP (f_X7_film_L60b (f_X7_film_L60 n60) v2 v4 v6 o_level o_noRings o_noTones o_noFuel o_sets o_ringFar o_ringTone o_code o_cellAt o_courseAt o_paceAt o_turnsAt o_slowAt o_fuelAt o_ringAt o_lanes o_sizes o_items) post := hw
      unfold f_X7_film_L60b at hw
      refine lv_iload hx hb dX7_film_60 (lv_at hl 3 rfl) ?_
      refine lv_aload_n hx hb dX7_film_62 rfl (lv_at hl 0 rfl) ?_
      refine va_get (D := (dC, dI)) (ci := 7) (v := .ref a_o_sets) (C := RX7) (T := TX7) (N := 42) hx hb hts hi7 hown hK hP 0 rfl rfl 0 (by decide) hq0 (fun _ h9 => h9) rfl dX7_film_63 ?_
      refine lv_iconst (v := 2) hx hb dX7_film_66 (by decide) ?_
      refine va_iald (i := 2) hx hb hK hP 1 0 rfl rfl (show ¬ _ by decide) dX7_film_67 ?_
      refine lv_icmp_gt (tgt := 99) hx hb dX7_film_68 (by decide) (fun c_1 => ?_) (fun c_1 => ?_)
      · replace hw := okT hw c_1
        clear c_1
        refine lv_aload_n hx hb dX7_film_99 rfl (lv_at hl 0 rfl) ?_
        refine va_get (D := (dC, dI)) (ci := 7) (v := .ref a_o_sets) (C := RX7) (T := TX7) (N := 42) hx hb hts hi7 hown hK hP 0 rfl rfl 0 (by decide) hq0 (fun _ h9 => h9) rfl dX7_film_100 ?_
        refine lv_iconst (v := 2) hx hb dX7_film_103 (by decide) ?_
        refine va_iald (i := 2) hx hb hK hP 1 0 rfl rfl (show ¬ _ by decide) dX7_film_104 ?_
        refine lv_iconst (v := 1) hx hb dX7_film_105 (by decide) ?_
        refine lv_iadd hx hb dX7_film_106 ?_
        rw [hQ]
        exact W.iret (v := (o_sets 2) + 1) hx hb hr (fun t ht hW => ⟨⟨(o_sets 2) + 1, (o_level, o_noRings, o_noTones, o_noFuel, o_code, o_cellAt, o_courseAt, o_paceAt, o_turnsAt, o_slowAt, o_fuelAt, o_ringAt, o_items), rfl, okS hw, by rw [ht]; exact hP, va_K.moved hW.alike hK, hD⟩, hS.F ht⟩) hS.2.2 dX7_film_107
      · replace hw := okF hw c_1
        clear c_1
        refine lv_aload_n hx hb dX7_film_71 rfl (lv_at hl 0 rfl) ?_
        refine va_get (D := (dC, dI)) (ci := 7) (v := .ref a_o_items) (C := RX7) (T := TX7) (N := 42) hx hb hts hi7 hown hK hP 0 rfl rfl 40 (by decide) hq2 (fun _ h9 => h9) rfl dX7_film_72 ?_
        refine lv_bipush (v := 16) hx hb dX7_film_75 (by decide) ?_
        refine lv_iload_n hx hb dX7_film_77 rfl (lv_at hl 1 rfl) ?_
        refine lv_imul hx hb dX7_film_78 ?_
        refine lv_iload hx hb dX7_film_79 (lv_at hl 2 rfl) ?_
        refine lv_iadd hx hb dX7_film_81 ?_
        refine lv_iload hx hb dX7_film_82 (lv_at hl 3 rfl) ?_
        refine lv_iadd hx hb dX7_film_84 ?_
        refine lv_aload_n hx hb dX7_film_85 rfl (lv_at hl 0 rfl) ?_
        refine va_get (D := (dC, dI)) (ci := 7) (v := .ref a_o_cellAt) (C := RX7) (T := TX7) (N := 42) hx hb hts hi7 hown hK hP 0 rfl rfl 14 (by decide) hq3 (fun _ h9 => h9) rfl dX7_film_86 ?_
        refine lv_iload hx hb dX7_film_89 (lv_at hl 3 rfl) ?_
        obtain ⟨h_2, hw⟩ := okC hw
        refine va_iald (i := v6) hx hb hK hP 5 0 rfl rfl h_2 dX7_film_91 ?_
        refine lv_topi (fun x_3 ex_3 => ?_)
        replace hw := okN ex_3 hw
        clear ex_3
        obtain ⟨h_4, hw⟩ := okC hw
        refine va_iast (i := ((16 * v2) + v4) + v6) (x := x_3) hx hb hK hP hD hS 14 0 rfl rfl h_4 dX7_film_92 (fun H locs hP hD hS => ?_)
        have hP : va_P (dC, dI) vwCl (W_X7_film cyI cyJ cyO h_o a_o_sets a_o_ringFar a_o_ringTone a_o_currents a_o_warmths a_o_depths a_o_tape a_o_readFar a_o_readTone a_o_readSea a_o_code a_o_cellAt a_o_courseAt a_o_paceAt a_o_turnsAt a_o_slowAt a_o_fuelAt a_o_ringAt a_o_pieceParts a_o_dragCell a_o_dragBy a_o_sums a_o_shares a_o_keptFar a_o_image a_o_lanes a_o_sizes a_o_items a_o_movedItems o_taped o_at o_wrong o_level o_noRings o_noTones o_noFuel o_pieces o_drags o_all o_noPieces o_noDrags o_kept o_sets o_ringFar o_ringTone o_code o_cellAt o_courseAt o_paceAt o_turnsAt o_slowAt o_fuelAt o_ringAt o_lanes o_sizes (upd o_items (((16 * v2) + v4) + v6).toNatClampNeg x_3)) H := hP
        have hD : va_D A (W_X7_film cyI cyJ cyO h_o a_o_sets a_o_ringFar a_o_ringTone a_o_currents a_o_warmths a_o_depths a_o_tape a_o_readFar a_o_readTone a_o_readSea a_o_code a_o_cellAt a_o_courseAt a_o_paceAt a_o_turnsAt a_o_slowAt a_o_fuelAt a_o_ringAt a_o_pieceParts a_o_dragCell a_o_dragBy a_o_sums a_o_shares a_o_keptFar a_o_image a_o_lanes a_o_sizes a_o_items a_o_movedItems o_taped o_at o_wrong o_level o_noRings o_noTones o_noFuel o_pieces o_drags o_all o_noPieces o_noDrags o_kept o_sets o_ringFar o_ringTone o_code o_cellAt o_courseAt o_paceAt o_turnsAt o_slowAt o_fuelAt o_ringAt o_lanes o_sizes (upd o_items (((16 * v2) + v4) + v6).toNatClampNeg x_3)) := hD
        obtain ⟨x_5, ex_5⟩ : ∃ y : Int32, y = v6 + 1 := ⟨_, rfl⟩
        replace hw := okN ex_5 hw
        refine lv_iinc (v := x_5) (lv' := [(6, .int x_5), (0, .ref h_o), (2, .int v2), (4, .int v4)]) hx hb dX7_film_93 hl (k := 3) rfl (by rw [ex_5]; rfl) (by decide) rfl (fun ls hl => ?_)
        clear ex_5
        refine lv_goto (tgt := 60) hx hb dX7_film_96 (by decide) ?_
        exact ih60 v2 v4 x_5 o_level o_noRings o_noTones o_noFuel o_code o_cellAt o_courseAt o_paceAt o_turnsAt o_slowAt o_fuelAt o_ringAt (upd o_items (((16 * v2) + v4) + v6).toNatClampNeg x_3) _ _ hP hD hS _ (lv_sub hl [1, 2, 3, 0] rfl) hw
  unfold f_X7_film at hw
  have hP : va_P (dC, dI) vwCl (W_X7_film cyI cyJ cyO h_o a_o_sets a_o_ringFar a_o_ringTone a_o_currents a_o_warmths a_o_depths a_o_tape a_o_readFar a_o_readTone a_o_readSea a_o_code a_o_cellAt a_o_courseAt a_o_paceAt a_o_turnsAt a_o_slowAt a_o_fuelAt a_o_ringAt a_o_pieceParts a_o_dragCell a_o_dragBy a_o_sums a_o_shares a_o_keptFar a_o_image a_o_lanes a_o_sizes a_o_items a_o_movedItems o_taped o_at o_wrong o_level o_noRings o_noTones o_noFuel o_pieces o_drags o_all o_noPieces o_noDrags o_kept o_sets o_ringFar o_ringTone o_code o_cellAt o_courseAt o_paceAt o_turnsAt o_slowAt o_fuelAt o_ringAt o_lanes o_sizes o_items) s.heap := hP
  obtain ⟨H, hH⟩ : ∃ H, H = s.heap := ⟨_, rfl⟩
  obtain ⟨locs, hlo⟩ : ∃ x : List Loc, x = [] := ⟨_, rfl⟩
  have hP : va_P (dC, dI) vwCl (W_X7_film cyI cyJ cyO h_o a_o_sets a_o_ringFar a_o_ringTone a_o_currents a_o_warmths a_o_depths a_o_tape a_o_readFar a_o_readTone a_o_readSea a_o_code a_o_cellAt a_o_courseAt a_o_paceAt a_o_turnsAt a_o_slowAt a_o_fuelAt a_o_ringAt a_o_pieceParts a_o_dragCell a_o_dragBy a_o_sums a_o_shares a_o_keptFar a_o_image a_o_lanes a_o_sizes a_o_items a_o_movedItems o_taped o_at o_wrong o_level o_noRings o_noTones o_noFuel o_pieces o_drags o_all o_noPieces o_noDrags o_kept o_sets o_ringFar o_ringTone o_code o_cellAt o_courseAt o_paceAt o_turnsAt o_slowAt o_fuelAt o_ringAt o_lanes o_sizes o_items) H := by rw [hH]; exact hP
  have hS : va_S A s.heap H locs := by rw [hH, hlo]; exact hS
  refine kH hH hlo ?_
  clear hH hlo
  refine lv_iload_n hx hb dX7_film_0 rfl (lv_at hl 1 rfl) ?_
  refine lv_if_lt (tgt := 18) hx hb dX7_film_1 (by decide) (fun c_6 => ?_) (fun c_6 => ?_)
  · replace hw := okT hw c_6
    clear c_6
    refine lv_iconst (v := (-1)) hx hb dX7_film_18 (by decide) ?_
    rw [hQ]
    exact W.iret (v := (-1)) hx hb hr (fun t ht hW => ⟨⟨(-1), (o_level, o_noRings, o_noTones, o_noFuel, o_code, o_cellAt, o_courseAt, o_paceAt, o_turnsAt, o_slowAt, o_fuelAt, o_ringAt, o_items), rfl, okS hw, by rw [ht]; exact hP, va_K.moved hW.alike hK, hD⟩, hS.F ht⟩) hS.2.2 dX7_film_19
  · replace hw := okF hw c_6
    clear c_6
    refine lv_iload_n hx hb dX7_film_4 rfl (lv_at hl 2 rfl) ?_
    have hFc := va_free (wc := []) hD hS hA [] rfl
    refine kp_i (va_runS (As := [.int x2]) (rest := []) ⟨hx, hb, hml, hown, hts⟩ (c_X7_isSheet l dC dI cyI cyJ cyO H.size x2 _ (okb1 hw)) (va_cwS 1 hts (gdS (fun w h => List.mem_cons_of_mem _ h) q_1046 q_1047 q_8 q_1048) rfl rfl rfl (by decide +kernel) ⟨Nat.le_of_ble_eq_true rfl, Nat.le_of_ble_eq_true rfl⟩) (kpre zN_ok hK va_P0 va_D0 trivial hS hFc) rfl rfl hl.1 rfl (lv_room (Nat.le_of_ble_eq_true rfl)) dX7_film_5 ⟨Nat.le_of_ble_eq_true rfl, Nat.le_of_ble_eq_true rfl⟩) hP hD hS hFc (fun r_7 H locs hw hP hS => ?_)
    try dsimp only at hw
    clear hFc
    refine lv_if_eq (tgt := 18) hx hb dX7_film_8 (by decide) (fun c_8 => ?_) (fun c_8 => ?_)
    · replace hw := okT hw c_8
      clear c_8
      refine lv_iconst (v := (-1)) hx hb dX7_film_18 (by decide) ?_
      rw [hQ]
      exact W.iret (v := (-1)) hx hb hr (fun t ht hW => ⟨⟨(-1), (o_level, o_noRings, o_noTones, o_noFuel, o_code, o_cellAt, o_courseAt, o_paceAt, o_turnsAt, o_slowAt, o_fuelAt, o_ringAt, o_items), rfl, okS hw, by rw [ht]; exact hP, va_K.moved hW.alike hK, hD⟩, hS.F ht⟩) hS.2.2 dX7_film_19
    · replace hw := okF hw c_8
      clear c_8
      refine lv_iload_n hx hb dX7_film_11 rfl (lv_at hl 3 rfl) ?_
      have hFc := va_free (wc := []) hD hS hA [] rfl
      refine kp_i (va_runS (As := [.int x3]) (rest := []) ⟨hx, hb, hml, hown, hts⟩ (c_X7_isLane l dC dI cyI cyJ cyO H.size x3 _ (okb1 hw)) (va_cwS 1 hts (gdS (fun w h => List.mem_cons_of_mem _ h) q_1050 q_1051 q_8 q_1052) rfl rfl rfl (by decide +kernel) ⟨Nat.le_of_ble_eq_true rfl, Nat.le_of_ble_eq_true rfl⟩) (kpre zN_ok hK va_P0 va_D0 trivial hS hFc) rfl rfl hl.1 rfl (lv_room (Nat.le_of_ble_eq_true rfl)) dX7_film_12 ⟨Nat.le_of_ble_eq_true rfl, Nat.le_of_ble_eq_true rfl⟩) hP hD hS hFc (fun r_9 H locs hw hP hS => ?_)
      try dsimp only at hw
      clear hFc
      refine lv_if_ne (tgt := 20) hx hb dX7_film_15 (by decide) (fun c_10 => ?_) (fun c_10 => ?_)
      · replace hw := okF hw c_10
        clear c_10
        refine lv_aload_n hx hb dX7_film_20 rfl (lv_at hl 0 rfl) ?_
        refine lv_iload_n hx hb dX7_film_21 rfl (lv_at hl 2 rfl) ?_
        refine lv_iload_n hx hb dX7_film_22 rfl (lv_at hl 3 rfl) ?_
        refine lv_iload hx hb dX7_film_23 (lv_at hl 4 rfl) ?_
        refine lv_aload_n hx hb dX7_film_25 rfl (lv_at hl 0 rfl) ?_
        refine va_get (D := (dC, dI)) (ci := 7) (v := .ref a_o_sets) (C := RX7) (T := TX7) (N := 42) hx hb hts hi7 hown hK hP 0 rfl rfl 0 (by decide) hq0 (fun _ h9 => h9) rfl dX7_film_26 ?_
        refine lv_iconst (v := 2) hx hb dX7_film_29 (by decide) ?_
        refine va_iald (i := 2) hx hb hK hP 1 0 rfl rfl (show ¬ _ by decide) dX7_film_30 ?_
        refine lv_iconst (v := 1) hx hb dX7_film_31 (by decide) ?_
        refine lv_iadd hx hb dX7_film_32 ?_
        have hPc := hP.sub (ws' := (W_X7_refuses cyI cyJ cyO h_o a_o_sets a_o_ringFar a_o_ringTone a_o_currents a_o_warmths a_o_depths a_o_tape a_o_readFar a_o_readTone a_o_readSea a_o_code a_o_cellAt a_o_courseAt a_o_paceAt a_o_turnsAt a_o_slowAt a_o_fuelAt a_o_ringAt a_o_pieceParts a_o_dragCell a_o_dragBy a_o_sums a_o_shares a_o_keptFar a_o_image a_o_lanes a_o_sizes a_o_items a_o_movedItems o_taped o_at o_wrong o_level o_noRings o_noTones o_noFuel o_pieces o_drags o_all o_noPieces o_noDrags o_kept o_lanes o_sizes)) [0, 12, 13] rfl
        have hDc := hD.sub (ws' := (W_X7_refuses cyI cyJ cyO h_o a_o_sets a_o_ringFar a_o_ringTone a_o_currents a_o_warmths a_o_depths a_o_tape a_o_readFar a_o_readTone a_o_readSea a_o_code a_o_cellAt a_o_courseAt a_o_paceAt a_o_turnsAt a_o_slowAt a_o_fuelAt a_o_ringAt a_o_pieceParts a_o_dragCell a_o_dragBy a_o_sums a_o_shares a_o_keptFar a_o_image a_o_lanes a_o_sizes a_o_items a_o_movedItems o_taped o_at o_wrong o_level o_noRings o_noTones o_noFuel o_pieces o_drags o_all o_noPieces o_noDrags o_kept o_lanes o_sizes)) [0, 12, 13] (by decide +kernel) rfl
        have hFc := va_free (wc := (W_X7_refuses cyI cyJ cyO h_o a_o_sets a_o_ringFar a_o_ringTone a_o_currents a_o_warmths a_o_depths a_o_tape a_o_readFar a_o_readTone a_o_readSea a_o_code a_o_cellAt a_o_courseAt a_o_paceAt a_o_turnsAt a_o_slowAt a_o_fuelAt a_o_ringAt a_o_pieceParts a_o_dragCell a_o_dragBy a_o_sums a_o_shares a_o_keptFar a_o_image a_o_lanes a_o_sizes a_o_items a_o_movedItems o_taped o_at o_wrong o_level o_noRings o_noTones o_noFuel o_pieces o_drags o_all o_noPieces o_noDrags o_kept o_lanes o_sizes)) hD hS hA [0, 12, 13] rfl
        refine kc_i (wr := [(a_o_sets, .inl (cyI, 8, .inl o_sets)), (a_o_ringFar, .inl (cyI, 7, .inl o_ringFar)), (a_o_ringTone, .inl (cyI, 7, .inl o_ringTone)), (a_o_code, .inl (cyI, 7, .inl o_code)), (a_o_cellAt, .inl (cyI, 7, .inl o_cellAt)), (a_o_courseAt, .inl (cyI, 7, .inl o_courseAt)), (a_o_paceAt, .inl (cyI, 7, .inl o_paceAt)), (a_o_turnsAt, .inl (cyI, 7, .inl o_turnsAt)), (a_o_slowAt, .inl (cyI, 7, .inl o_slowAt)), (a_o_fuelAt, .inl (cyI, 7, .inl o_fuelAt)), (a_o_ringAt, .inl (cyI, 7, .inl o_ringAt)), (a_o_items, .inl (cyI, 64, .inl o_items))]) (va_runV (As := [.int x2, .int x3, .int x4, .int ((o_sets 2) + 1)]) (rest := []) ⟨hx, hb, hml, hown, hts⟩ (c_X7_refuses l dC dI cyI cyJ cyO H.size h_o a_o_sets a_o_ringFar a_o_ringTone a_o_currents a_o_warmths a_o_depths a_o_tape a_o_readFar a_o_readTone a_o_readSea a_o_code a_o_cellAt a_o_courseAt a_o_paceAt a_o_turnsAt a_o_slowAt a_o_fuelAt a_o_ringAt a_o_pieceParts a_o_dragCell a_o_dragBy a_o_sums a_o_shares a_o_keptFar a_o_image a_o_lanes a_o_sizes a_o_items a_o_movedItems o_taped o_at o_wrong o_level o_noRings o_noTones o_noFuel o_pieces o_drags o_all o_noPieces o_noDrags o_kept o_lanes o_sizes x2 x3 x4 ((o_sets 2) + 1) _ (okb1 hw)) (cwV 4 hts (gdV (fun w h => List.mem_cons_of_mem _ h) q_1053 q_1055 qs_43 q_8 q_1056) rfl rfl rfl (by decide +kernel) ⟨Nat.le_of_ble_eq_true rfl, Nat.le_of_ble_eq_true rfl⟩) ⟨(kpre zN_ok hK hPc hDc trivial hS hFc).1, va_recv hK hP (ci := 7) (q0 := 0) rfl rfl, (kpre zN_ok hK hPc hDc trivial hS hFc).2⟩ rfl rfl hl.1 rfl (lv_room (Nat.le_of_ble_eq_true rfl)) dX7_film_33 ⟨Nat.le_of_ble_eq_true rfl, Nat.le_of_ble_eq_true rfl⟩) hP hD hS hFc [0, 12, 13] [1, 2, 3, 4, 5, 6, 7, 8, 9, 10, 11, 14] rfl rfl (by decide +kernel) (by decide +kernel) (fun r_11 u H locs hw hP hD hS => ?_)
        try dsimp only at hw
        have hP : va_P (dC, dI) vwCl (W_X7_film cyI cyJ cyO h_o a_o_sets a_o_ringFar a_o_ringTone a_o_currents a_o_warmths a_o_depths a_o_tape a_o_readFar a_o_readTone a_o_readSea a_o_code a_o_cellAt a_o_courseAt a_o_paceAt a_o_turnsAt a_o_slowAt a_o_fuelAt a_o_ringAt a_o_pieceParts a_o_dragCell a_o_dragBy a_o_sums a_o_shares a_o_keptFar a_o_image a_o_lanes a_o_sizes a_o_items a_o_movedItems o_taped o_at o_wrong o_level o_noRings o_noTones o_noFuel o_pieces o_drags o_all o_noPieces o_noDrags o_kept o_sets o_ringFar o_ringTone o_code o_cellAt o_courseAt o_paceAt o_turnsAt o_slowAt o_fuelAt o_ringAt o_lanes o_sizes o_items) H := hP.sub [12, 0, 1, 2, 3, 4, 5, 6, 7, 8, 9, 10, 13, 14, 11] rfl
        have hD : va_D A (W_X7_film cyI cyJ cyO h_o a_o_sets a_o_ringFar a_o_ringTone a_o_currents a_o_warmths a_o_depths a_o_tape a_o_readFar a_o_readTone a_o_readSea a_o_code a_o_cellAt a_o_courseAt a_o_paceAt a_o_turnsAt a_o_slowAt a_o_fuelAt a_o_ringAt a_o_pieceParts a_o_dragCell a_o_dragBy a_o_sums a_o_shares a_o_keptFar a_o_image a_o_lanes a_o_sizes a_o_items a_o_movedItems o_taped o_at o_wrong o_level o_noRings o_noTones o_noFuel o_pieces o_drags o_all o_noPieces o_noDrags o_kept o_sets o_ringFar o_ringTone o_code o_cellAt o_courseAt o_paceAt o_turnsAt o_slowAt o_fuelAt o_ringAt o_lanes o_sizes o_items) := hD.sub [12, 0, 1, 2, 3, 4, 5, 6, 7, 8, 9, 10, 13, 14, 11] (by decide +kernel) rfl
        clear hPc hDc hFc
        refine lv_istore (lv' := [(5, .int r_11), (0, .ref h_o), (1, .int x1), (2, .int x2), (3, .int x3), (4, .int x4)]) hx hb dX7_film_36 hl (by decide) rfl (fun ls hl => ?_)
        refine lv_iload hx hb dX7_film_38 (lv_at hl 0 rfl) ?_
        refine lv_if_ge (tgt := 46) hx hb dX7_film_40 (by decide) (fun c_12 => ?_) (fun c_12 => ?_)
        · replace hw := okT hw c_12
          clear c_12
          refine lv_aload_n hx hb dX7_film_46 rfl (lv_at hl 1 rfl) ?_
          refine lv_iload_n hx hb dX7_film_47 rfl (lv_at hl 2 rfl) ?_
          have hPc := hP.sub (ws' := (W_X7_finds cyI cyJ cyO h_o a_o_sets a_o_ringFar a_o_ringTone a_o_currents a_o_warmths a_o_depths a_o_tape a_o_readFar a_o_readTone a_o_readSea a_o_code a_o_cellAt a_o_courseAt a_o_paceAt a_o_turnsAt a_o_slowAt a_o_fuelAt a_o_ringAt a_o_pieceParts a_o_dragCell a_o_dragBy a_o_sums a_o_shares a_o_keptFar a_o_image a_o_lanes a_o_sizes a_o_items a_o_movedItems o_taped o_at o_wrong o_level o_noRings o_noTones o_noFuel o_pieces o_drags o_all o_noPieces o_noDrags o_kept o_sets o_ringFar o_ringTone o_code o_cellAt o_courseAt o_paceAt o_turnsAt o_slowAt o_fuelAt o_ringAt)) [0, 1, 2, 3, 4, 5, 6, 7, 8, 9, 10, 11] rfl
          have hDc := hD.sub (ws' := (W_X7_finds cyI cyJ cyO h_o a_o_sets a_o_ringFar a_o_ringTone a_o_currents a_o_warmths a_o_depths a_o_tape a_o_readFar a_o_readTone a_o_readSea a_o_code a_o_cellAt a_o_courseAt a_o_paceAt a_o_turnsAt a_o_slowAt a_o_fuelAt a_o_ringAt a_o_pieceParts a_o_dragCell a_o_dragBy a_o_sums a_o_shares a_o_keptFar a_o_image a_o_lanes a_o_sizes a_o_items a_o_movedItems o_taped o_at o_wrong o_level o_noRings o_noTones o_noFuel o_pieces o_drags o_all o_noPieces o_noDrags o_kept o_sets o_ringFar o_ringTone o_code o_cellAt o_courseAt o_paceAt o_turnsAt o_slowAt o_fuelAt o_ringAt)) [0, 1, 2, 3, 4, 5, 6, 7, 8, 9, 10, 11] (by decide +kernel) rfl
          have hFc := va_free (wc := (W_X7_finds cyI cyJ cyO h_o a_o_sets a_o_ringFar a_o_ringTone a_o_currents a_o_warmths a_o_depths a_o_tape a_o_readFar a_o_readTone a_o_readSea a_o_code a_o_cellAt a_o_courseAt a_o_paceAt a_o_turnsAt a_o_slowAt a_o_fuelAt a_o_ringAt a_o_pieceParts a_o_dragCell a_o_dragBy a_o_sums a_o_shares a_o_keptFar a_o_image a_o_lanes a_o_sizes a_o_items a_o_movedItems o_taped o_at o_wrong o_level o_noRings o_noTones o_noFuel o_pieces o_drags o_all o_noPieces o_noDrags o_kept o_sets o_ringFar o_ringTone o_code o_cellAt o_courseAt o_paceAt o_turnsAt o_slowAt o_fuelAt o_ringAt)) hD hS hA [0, 1, 2, 3, 4, 5, 6, 7, 8, 9, 10, 11] rfl
          refine kc_i (wr := [(a_o_lanes, .inl (cyI, 4, .inl o_lanes)), (a_o_sizes, .inl (cyI, 4, .inl o_sizes)), (a_o_items, .inl (cyI, 64, .inl o_items))]) (va_runV (As := [.int x1]) (rest := []) ⟨hx, hb, hml, hown, hts⟩ (c_X7_finds l dC dI cyI cyJ cyO H.size h_o a_o_sets a_o_ringFar a_o_ringTone a_o_currents a_o_warmths a_o_depths a_o_tape a_o_readFar a_o_readTone a_o_readSea a_o_code a_o_cellAt a_o_courseAt a_o_paceAt a_o_turnsAt a_o_slowAt a_o_fuelAt a_o_ringAt a_o_pieceParts a_o_dragCell a_o_dragBy a_o_sums a_o_shares a_o_keptFar a_o_image a_o_lanes a_o_sizes a_o_items a_o_movedItems o_taped o_at o_wrong o_level o_noRings o_noTones o_noFuel o_pieces o_drags o_all o_noPieces o_noDrags o_kept o_sets o_ringFar o_ringTone o_code o_cellAt o_courseAt o_paceAt o_turnsAt o_slowAt o_fuelAt o_ringAt x1 _ (okb13 hw)) (cwV 1 hts (gdV (fun w h => List.mem_cons_of_mem _ h) q_938 q_940 qs_34 q_8 q_941) rfl rfl rfl (by decide +kernel) ⟨Nat.le_of_ble_eq_true rfl, Nat.le_of_ble_eq_true rfl⟩) ⟨(kpre zN_ok hK hPc hDc trivial hS hFc).1, va_recv hK hP (ci := 7) (q0 := 0) rfl rfl, (kpre zN_ok hK hPc hDc trivial hS hFc).2⟩ rfl rfl hl.1 rfl (lv_room (Nat.le_of_ble_eq_true rfl)) dX7_film_48 ⟨Nat.le_of_ble_eq_true rfl, Nat.le_of_ble_eq_true rfl⟩) hP hD hS hFc [0, 1, 2, 3, 4, 5, 6, 7, 8, 9, 10, 11] [12, 13, 14] rfl rfl (by decide +kernel) (by decide +kernel) (fun r_13 u H locs hw hP hD hS => ?_)
          obtain ⟨w_14, w_15, w_16, w_17, w_18, w_19, w_20, w_21, w_22, w_23, w_24, w_25⟩ := u
          try dsimp only at hw
          have hP : va_P (dC, dI) vwCl (W_X7_film cyI cyJ cyO h_o a_o_sets a_o_ringFar a_o_ringTone a_o_currents a_o_warmths a_o_depths a_o_tape a_o_readFar a_o_readTone a_o_readSea a_o_code a_o_cellAt a_o_courseAt a_o_paceAt a_o_turnsAt a_o_slowAt a_o_fuelAt a_o_ringAt a_o_pieceParts a_o_dragCell a_o_dragBy a_o_sums a_o_shares a_o_keptFar a_o_image a_o_lanes a_o_sizes a_o_items a_o_movedItems o_taped o_at o_wrong w_14 w_15 w_16 w_17 o_pieces o_drags o_all o_noPieces o_noDrags o_kept o_sets o_ringFar o_ringTone w_18 w_19 w_20 w_21 w_22 w_23 w_24 w_25 o_lanes o_sizes o_items) H := hP.sub [3, 4, 5, 6, 7, 8, 9, 10, 11, 12, 13, 14, 0, 1, 2] rfl
          have hD : va_D A (W_X7_film cyI cyJ cyO h_o a_o_sets a_o_ringFar a_o_ringTone a_o_currents a_o_warmths a_o_depths a_o_tape a_o_readFar a_o_readTone a_o_readSea a_o_code a_o_cellAt a_o_courseAt a_o_paceAt a_o_turnsAt a_o_slowAt a_o_fuelAt a_o_ringAt a_o_pieceParts a_o_dragCell a_o_dragBy a_o_sums a_o_shares a_o_keptFar a_o_image a_o_lanes a_o_sizes a_o_items a_o_movedItems o_taped o_at o_wrong w_14 w_15 w_16 w_17 o_pieces o_drags o_all o_noPieces o_noDrags o_kept o_sets o_ringFar o_ringTone w_18 w_19 w_20 w_21 w_22 w_23 w_24 w_25 o_lanes o_sizes o_items) := hD.sub [3, 4, 5, 6, 7, 8, 9, 10, 11, 12, 13, 14, 0, 1, 2] (by decide +kernel) rfl
          clear hPc hDc hFc
          refine lv_if_ne (tgt := 57) hx hb dX7_film_51 (by decide) (fun c_26 => ?_) (fun c_26 => ?_)
          · replace hw := okF hw c_26
            clear c_26
            refine lv_iconst (v := 0) hx hb dX7_film_57 (by decide) ?_
            refine lv_istore (lv' := [(6, .int 0), (5, .int r_11), (0, .ref h_o), (1, .int x1), (2, .int x2), (3, .int x3), (4, .int x4)]) hx hb dX7_film_58 hl (by decide) rfl (fun ls hl => ?_)
            exact w60 FU x2 x4 0 w_14 w_15 w_16 w_17 w_18 w_19 w_20 w_21 w_22 w_23 w_24 w_25 o_items _ _ hP hD hS _ (lv_sub hl [2, 4, 6, 0] rfl) hw
          · replace hw := okT hw c_26
            clear c_26
            refine lv_bipush (v := (-2)) hx hb dX7_film_54 (by decide) ?_
            rw [hQ]
            exact W.iret (v := (-2)) hx hb hr (fun t ht hW => ⟨⟨(-2), (w_14, w_15, w_16, w_17, w_18, w_19, w_20, w_21, w_22, w_23, w_24, w_25, o_items), rfl, okS hw, by rw [ht]; exact hP, va_K.moved hW.alike hK, hD⟩, hS.F ht⟩) hS.2.2 dX7_film_56
        · replace hw := okF hw c_12
          clear c_12
          refine lv_iload hx hb dX7_film_43 (lv_at hl 0 rfl) ?_
          rw [hQ]
          exact W.iret (v := r_11) hx hb hr (fun t ht hW => ⟨⟨r_11, (o_level, o_noRings, o_noTones, o_noFuel, o_code, o_cellAt, o_courseAt, o_paceAt, o_turnsAt, o_slowAt, o_fuelAt, o_ringAt, o_items), rfl, okS hw, by rw [ht]; exact hP, va_K.moved hW.alike hK, hD⟩, hS.F ht⟩) hS.2.2 dX7_film_45
      · replace hw := okT hw c_10
        clear c_10
        refine lv_iconst (v := (-1)) hx hb dX7_film_18 (by decide) ?_
        rw [hQ]
        exact W.iret (v := (-1)) hx hb hr (fun t ht hW => ⟨⟨(-1), (o_level, o_noRings, o_noTones, o_noFuel, o_code, o_cellAt, o_courseAt, o_paceAt, o_turnsAt, o_slowAt, o_fuelAt, o_ringAt, o_items), rfl, okS hw, by rw [ht]; exact hP, va_K.moved hW.alike hK, hD⟩, hS.F ht⟩) hS.2.2 dX7_film_19
/-! ===== X7_copy ===== -/
theorem dX7_copy_0 : decode cX7_copy 0 = .ok (.iload_n 1, 1) := by decide +kernel
theorem dX7_copy_1 : decode cX7_copy 1 = .ok (.invokestatic 259, 3) := by decide +kernel
theorem dX7_copy_4 : decode cX7_copy 4 = .ok (.ifCond .eq 10, 3) := by decide +kernel
theorem dX7_copy_7 : decode cX7_copy 7 = .ok (.iload_n 3, 1) := by decide +kernel
theorem dX7_copy_8 : decode cX7_copy 8 = .ok (.invokestatic 259, 3) := by decide +kernel
theorem dX7_copy_11 : decode cX7_copy 11 = .ok (.ifCond .ne 5, 3) := by decide +kernel
theorem dX7_copy_14 : decode cX7_copy 14 = .ok (.iconst (-1), 1) := by decide +kernel
theorem dX7_copy_15 : decode cX7_copy 15 = .ok (.ireturn, 1) := by decide +kernel
theorem dX7_copy_16 : decode cX7_copy 16 = .ok (.aload_n 0, 1) := by decide +kernel
theorem dX7_copy_17 : decode cX7_copy 17 = .ok (.getfield 86, 3) := by decide +kernel
theorem dX7_copy_20 : decode cX7_copy 20 = .ok (.iload_n 1, 1) := by decide +kernel
theorem dX7_copy_21 : decode cX7_copy 21 = .ok (.iaload, 1) := by decide +kernel
theorem dX7_copy_22 : decode cX7_copy 22 = .ok (.ifCond .lt 12, 3) := by decide +kernel
theorem dX7_copy_25 : decode cX7_copy 25 = .ok (.aload_n 0, 1) := by decide +kernel
theorem dX7_copy_26 : decode cX7_copy 26 = .ok (.getfield 86, 3) := by decide +kernel
theorem dX7_copy_29 : decode cX7_copy 29 = .ok (.iload_n 3, 1) := by decide +kernel
theorem dX7_copy_30 : decode cX7_copy 30 = .ok (.iaload, 1) := by decide +kernel
theorem dX7_copy_31 : decode cX7_copy 31 = .ok (.ifCond .ge 6, 3) := by decide +kernel
theorem dX7_copy_34 : decode cX7_copy 34 = .ok (.bipush (-11), 2) := by decide +kernel
theorem dX7_copy_36 : decode cX7_copy 36 = .ok (.ireturn, 1) := by decide +kernel
theorem dX7_copy_37 : decode cX7_copy 37 = .ok (.aload_n 0, 1) := by decide +kernel
theorem dX7_copy_38 : decode cX7_copy 38 = .ok (.getfield 86, 3) := by decide +kernel
theorem dX7_copy_41 : decode cX7_copy 41 = .ok (.iload_n 1, 1) := by decide +kernel
theorem dX7_copy_42 : decode cX7_copy 42 = .ok (.iaload, 1) := by decide +kernel
theorem dX7_copy_43 : decode cX7_copy 43 = .ok (.aload_n 0, 1) := by decide +kernel
theorem dX7_copy_44 : decode cX7_copy 44 = .ok (.getfield 86, 3) := by decide +kernel
theorem dX7_copy_47 : decode cX7_copy 47 = .ok (.iload_n 3, 1) := by decide +kernel
theorem dX7_copy_48 : decode cX7_copy 48 = .ok (.iaload, 1) := by decide +kernel
theorem dX7_copy_49 : decode cX7_copy 49 = .ok (.if_icmp .eq 6, 3) := by decide +kernel
theorem dX7_copy_52 : decode cX7_copy 52 = .ok (.bipush (-12), 2) := by decide +kernel
theorem dX7_copy_54 : decode cX7_copy 54 = .ok (.ireturn, 1) := by decide +kernel
theorem dX7_copy_55 : decode cX7_copy 55 = .ok (.iload 5, 2) := by decide +kernel
theorem dX7_copy_57 : decode cX7_copy 57 = .ok (.ifCond .lt 38, 3) := by decide +kernel
theorem dX7_copy_60 : decode cX7_copy 60 = .ok (.aload_n 0, 1) := by decide +kernel
theorem dX7_copy_61 : decode cX7_copy 61 = .ok (.iload_n 1, 1) := by decide +kernel
theorem dX7_copy_62 : decode cX7_copy 62 = .ok (.aload_n 0, 1) := by decide +kernel
theorem dX7_copy_63 : decode cX7_copy 63 = .ok (.getfield 86, 3) := by decide +kernel
theorem dX7_copy_66 : decode cX7_copy 66 = .ok (.iload_n 1, 1) := by decide +kernel
theorem dX7_copy_67 : decode cX7_copy 67 = .ok (.iaload, 1) := by decide +kernel
theorem dX7_copy_68 : decode cX7_copy 68 = .ok (.iload_n 2, 1) := by decide +kernel
theorem dX7_copy_69 : decode cX7_copy 69 = .ok (.iload 5, 2) := by decide +kernel
theorem dX7_copy_71 : decode cX7_copy 71 = .ok (.invokevirtual 265, 3) := by decide +kernel
theorem dX7_copy_74 : decode cX7_copy 74 = .ok (.ifCond .lt 21, 3) := by decide +kernel
theorem dX7_copy_77 : decode cX7_copy 77 = .ok (.aload_n 0, 1) := by decide +kernel
theorem dX7_copy_78 : decode cX7_copy 78 = .ok (.iload_n 3, 1) := by decide +kernel
theorem dX7_copy_79 : decode cX7_copy 79 = .ok (.aload_n 0, 1) := by decide +kernel
theorem dX7_copy_80 : decode cX7_copy 80 = .ok (.getfield 86, 3) := by decide +kernel
theorem dX7_copy_83 : decode cX7_copy 83 = .ok (.iload_n 3, 1) := by decide +kernel
theorem dX7_copy_84 : decode cX7_copy 84 = .ok (.iaload, 1) := by decide +kernel
theorem dX7_copy_85 : decode cX7_copy 85 = .ok (.iload 4, 2) := by decide +kernel
theorem dX7_copy_87 : decode cX7_copy 87 = .ok (.iload 5, 2) := by decide +kernel
theorem dX7_copy_89 : decode cX7_copy 89 = .ok (.invokevirtual 265, 3) := by decide +kernel
theorem dX7_copy_92 : decode cX7_copy 92 = .ok (.ifCond .ge 6, 3) := by decide +kernel
theorem dX7_copy_95 : decode cX7_copy 95 = .ok (.bipush (-13), 2) := by decide +kernel
theorem dX7_copy_97 : decode cX7_copy 97 = .ok (.ireturn, 1) := by decide +kernel
theorem dX7_copy_98 : decode cX7_copy 98 = .ok (.iconst 0, 1) := by decide +kernel
theorem dX7_copy_99 : decode cX7_copy 99 = .ok (.istore 6, 2) := by decide +kernel
theorem dX7_copy_101 : decode cX7_copy 101 = .ok (.iload 6, 2) := by decide +kernel
theorem dX7_copy_103 : decode cX7_copy 103 = .ok (.iload 5, 2) := by decide +kernel
theorem dX7_copy_105 : decode cX7_copy 105 = .ok (.if_icmp .ge 30, 3) := by decide +kernel
theorem dX7_copy_108 : decode cX7_copy 108 = .ok (.aload_n 0, 1) := by decide +kernel
theorem dX7_copy_109 : decode cX7_copy 109 = .ok (.getfield 95, 3) := by decide +kernel
theorem dX7_copy_112 : decode cX7_copy 112 = .ok (.iload 6, 2) := by decide +kernel
theorem dX7_copy_114 : decode cX7_copy 114 = .ok (.aload_n 0, 1) := by decide +kernel
theorem dX7_copy_115 : decode cX7_copy 115 = .ok (.getfield 92, 3) := by decide +kernel
theorem dX7_copy_118 : decode cX7_copy 118 = .ok (.bipush 16, 2) := by decide +kernel
theorem dX7_copy_120 : decode cX7_copy 120 = .ok (.iload_n 1, 1) := by decide +kernel
theorem dX7_copy_121 : decode cX7_copy 121 = .ok (.imul, 1) := by decide +kernel
theorem dX7_copy_122 : decode cX7_copy 122 = .ok (.iload_n 2, 1) := by decide +kernel
theorem dX7_copy_123 : decode cX7_copy 123 = .ok (.iadd, 1) := by decide +kernel
theorem dX7_copy_124 : decode cX7_copy 124 = .ok (.iload 6, 2) := by decide +kernel
theorem dX7_copy_126 : decode cX7_copy 126 = .ok (.iadd, 1) := by decide +kernel
theorem dX7_copy_127 : decode cX7_copy 127 = .ok (.iaload, 1) := by decide +kernel
theorem dX7_copy_128 : decode cX7_copy 128 = .ok (.iastore, 1) := by decide +kernel
theorem dX7_copy_129 : decode cX7_copy 129 = .ok (.iinc 6 1, 3) := by decide +kernel
theorem dX7_copy_132 : decode cX7_copy 132 = .ok (.goto (-31), 3) := by decide +kernel
theorem dX7_copy_135 : decode cX7_copy 135 = .ok (.iconst 0, 1) := by decide +kernel
theorem dX7_copy_136 : decode cX7_copy 136 = .ok (.istore 6, 2) := by decide +kernel
theorem dX7_copy_138 : decode cX7_copy 138 = .ok (.iload 6, 2) := by decide +kernel
theorem dX7_copy_140 : decode cX7_copy 140 = .ok (.iload 5, 2) := by decide +kernel
theorem dX7_copy_142 : decode cX7_copy 142 = .ok (.if_icmp .ge 31, 3) := by decide +kernel
theorem dX7_copy_145 : decode cX7_copy 145 = .ok (.aload_n 0, 1) := by decide +kernel
theorem dX7_copy_146 : decode cX7_copy 146 = .ok (.getfield 92, 3) := by decide +kernel
theorem dX7_copy_149 : decode cX7_copy 149 = .ok (.bipush 16, 2) := by decide +kernel
theorem dX7_copy_151 : decode cX7_copy 151 = .ok (.iload_n 3, 1) := by decide +kernel
theorem dX7_copy_152 : decode cX7_copy 152 = .ok (.imul, 1) := by decide +kernel
theorem dX7_copy_153 : decode cX7_copy 153 = .ok (.iload 4, 2) := by decide +kernel
theorem dX7_copy_155 : decode cX7_copy 155 = .ok (.iadd, 1) := by decide +kernel
theorem dX7_copy_156 : decode cX7_copy 156 = .ok (.iload 6, 2) := by decide +kernel
theorem dX7_copy_158 : decode cX7_copy 158 = .ok (.iadd, 1) := by decide +kernel
theorem dX7_copy_159 : decode cX7_copy 159 = .ok (.aload_n 0, 1) := by decide +kernel
theorem dX7_copy_160 : decode cX7_copy 160 = .ok (.getfield 95, 3) := by decide +kernel
theorem dX7_copy_163 : decode cX7_copy 163 = .ok (.iload 6, 2) := by decide +kernel
theorem dX7_copy_165 : decode cX7_copy 165 = .ok (.iaload, 1) := by decide +kernel
theorem dX7_copy_166 : decode cX7_copy 166 = .ok (.iastore, 1) := by decide +kernel
theorem dX7_copy_167 : decode cX7_copy 167 = .ok (.iinc 6 1, 3) := by decide +kernel
theorem dX7_copy_170 : decode cX7_copy 170 = .ok (.goto (-32), 3) := by decide +kernel
theorem dX7_copy_173 : decode cX7_copy 173 = .ok (.iload 5, 2) := by decide +kernel
theorem dX7_copy_175 : decode cX7_copy 175 = .ok (.ireturn, 1) := by decide +kernel
abbrev W_X7_copy (cyI cyJ cyO : ClassId) (h_o a_o_sets a_o_ringFar a_o_ringTone a_o_currents a_o_warmths a_o_depths a_o_tape a_o_readFar a_o_readTone a_o_readSea a_o_code a_o_cellAt a_o_courseAt a_o_paceAt a_o_turnsAt a_o_slowAt a_o_fuelAt a_o_ringAt a_o_pieceParts a_o_dragCell a_o_dragBy a_o_sums a_o_shares a_o_keptFar a_o_image a_o_lanes a_o_sizes a_o_items a_o_movedItems : Nat) (o_taped : Int32) (o_at : Int32) (o_wrong : Int32) (o_level : Int32) (o_noRings : Int32) (o_noTones : Int32) (o_noFuel : Int32) (o_pieces : Int32) (o_drags : Int32) (o_all : Int64) (o_noPieces : Int32) (o_noDrags : Int32) (o_kept : Int32) (o_lanes : Nat → Int32) (o_sizes : Nat → Int32) (o_items : Nat → Int32) (o_movedItems : Nat → Int32) : va_W := [(h_o, .inr (7, [.ref a_o_sets, .ref a_o_ringFar, .ref a_o_ringTone, .ref a_o_currents, .ref a_o_warmths, .ref a_o_depths, .ref a_o_tape, .int o_taped, .int o_at, .int o_wrong, .ref a_o_readFar, .ref a_o_readTone, .ref a_o_readSea, .ref a_o_code, .ref a_o_cellAt, .ref a_o_courseAt, .ref a_o_paceAt, .ref a_o_turnsAt, .ref a_o_slowAt, .ref a_o_fuelAt, .ref a_o_ringAt, .int o_level, .int o_noRings, .int o_noTones, .int o_noFuel, .int o_pieces, .ref a_o_pieceParts, .int o_drags, .ref a_o_dragCell, .ref a_o_dragBy, .ref a_o_sums, .long o_all, .int o_noPieces, .int o_noDrags, .ref a_o_shares, .ref a_o_keptFar, .ref a_o_image, .int o_kept, .ref a_o_lanes, .ref a_o_sizes, .ref a_o_items, .ref a_o_movedItems])), (a_o_lanes, .inl (cyI, 4, .inl o_lanes)), (a_o_sizes, .inl (cyI, 4, .inl o_sizes)), (a_o_items, .inl (cyI, 64, .inl o_items)), (a_o_movedItems, .inl (cyI, 16, .inl o_movedItems))]
def f_X7_copy_L138b (k138 : Int32 → Int32 → Int32 → Int32 → (Nat → Int32) → (Nat → Int32) → (Nat → Int32) → (Nat → Int32) → Option (Int32 × (Nat → Int32) × (Nat → Int32))) (v3 : Int32) (v4 : Int32) (v5 : Int32) (v6 : Int32) (o_lanes : Nat → Int32) (o_sizes : Nat → Int32) (o_items : Nat → Int32) (o_movedItems : Nat → Int32) : Option (Int32 × (Nat → Int32) × (Nat → Int32)) :=
  if v5 ≤ v6 then
    some (v5, o_items, o_movedItems)
  else
    chk (¬ (v6 < 0 ∨ 16 ≤ v6.toNatClampNeg)) <|
    nm (o_movedItems v6.toNatClampNeg) fun x_1 =>
    chk (¬ (((16 * v3) + v4) + v6 < 0 ∨ 64 ≤ (((16 * v3) + v4) + v6).toNatClampNeg)) <|
    nm (v6 + 1) fun x_2 =>
    k138 v3 v4 v5 x_2 o_lanes o_sizes (upd o_items (((16 * v3) + v4) + v6).toNatClampNeg x_1) o_movedItems
def f_X7_copy_L138 : Nat → Int32 → Int32 → Int32 → Int32 → (Nat → Int32) → (Nat → Int32) → (Nat → Int32) → (Nat → Int32) → Option (Int32 × (Nat → Int32) × (Nat → Int32))
  | 0 => fun _ _ _ _ _ _ _ _ => none
  | n + 1 => f_X7_copy_L138b (f_X7_copy_L138 n)
def f_X7_copy_L101b (k101 : Int32 → Int32 → Int32 → Int32 → Int32 → Int32 → (Nat → Int32) → (Nat → Int32) → (Nat → Int32) → (Nat → Int32) → Option (Int32 × (Nat → Int32) × (Nat → Int32))) (v1 : Int32) (v2 : Int32) (v3 : Int32) (v4 : Int32) (v5 : Int32) (v6 : Int32) (o_lanes : Nat → Int32) (o_sizes : Nat → Int32) (o_items : Nat → Int32) (o_movedItems : Nat → Int32) : Option (Int32 × (Nat → Int32) × (Nat → Int32)) :=
  if v5 ≤ v6 then
    f_X7_copy_L138 FU v3 v4 v5 0 o_lanes o_sizes o_items o_movedItems
  else
    chk (¬ (((16 * v1) + v2) + v6 < 0 ∨ 64 ≤ (((16 * v1) + v2) + v6).toNatClampNeg)) <|
    nm (o_items (((16 * v1) + v2) + v6).toNatClampNeg) fun x_3 =>
    chk (¬ (v6 < 0 ∨ 16 ≤ v6.toNatClampNeg)) <|
    nm (v6 + 1) fun x_4 =>
    k101 v1 v2 v3 v4 v5 x_4 o_lanes o_sizes o_items (upd o_movedItems v6.toNatClampNeg x_3)
def f_X7_copy_L101 : Nat → Int32 → Int32 → Int32 → Int32 → Int32 → Int32 → (Nat → Int32) → (Nat → Int32) → (Nat → Int32) → (Nat → Int32) → Option (Int32 × (Nat → Int32) × (Nat → Int32))
  | 0 => fun _ _ _ _ _ _ _ _ _ _ => none
  | n + 1 => f_X7_copy_L101b (f_X7_copy_L101 n)
def f_X7_copy (x1 : Int32) (x2 : Int32) (x3 : Int32) (x4 : Int32) (x5 : Int32) (o_lanes : Nat → Int32) (o_sizes : Nat → Int32) (o_items : Nat → Int32) (o_movedItems : Nat → Int32) : Option (Int32 × (Nat → Int32) × (Nat → Int32)) :=
  bd1 (f_X7_isSheet x1) fun r_5 =>
  if r_5 = 0 then
    some ((-1), o_items, o_movedItems)
  else
    bd1 (f_X7_isSheet x3) fun r_6 =>
    if r_6 = 0 then
      some ((-1), o_items, o_movedItems)
    else
      chk (¬ (x1 < 0 ∨ 4 ≤ x1.toNatClampNeg)) <|
      if (o_lanes x1.toNatClampNeg) < 0 then
        some ((-11), o_items, o_movedItems)
      else
        chk (¬ (x3 < 0 ∨ 4 ≤ x3.toNatClampNeg)) <|
        if 0 ≤ (o_lanes x3.toNatClampNeg) then
          chk (¬ (x1 < 0 ∨ 4 ≤ x1.toNatClampNeg)) <|
          chk (¬ (x3 < 0 ∨ 4 ≤ x3.toNatClampNeg)) <|
          if (o_lanes x1.toNatClampNeg) = (o_lanes x3.toNatClampNeg) then
            if x5 < 0 then
              some ((-13), o_items, o_movedItems)
            else
              chk (¬ (x1 < 0 ∨ 4 ≤ x1.toNatClampNeg)) <|
              bd1 (f_X7_refuses x1 (o_lanes x1.toNatClampNeg) x2 x5 o_lanes o_sizes) fun r_7 =>
              if r_7 < 0 then
                some ((-13), o_items, o_movedItems)
              else
                chk (¬ (x3 < 0 ∨ 4 ≤ x3.toNatClampNeg)) <|
                bd1 (f_X7_refuses x3 (o_lanes x3.toNatClampNeg) x4 x5 o_lanes o_sizes) fun r_8 =>
                if 0 ≤ r_8 then
                  f_X7_copy_L101 FU x1 x2 x3 x4 x5 0 o_lanes o_sizes o_items o_movedItems
                else
                  some ((-13), o_items, o_movedItems)
          else
            some ((-12), o_items, o_movedItems)
        else
          some ((-11), o_items, o_movedItems)
abbrev rm_X7_copy : Room := { frames := 2, cells := 0, slots := 0, locals := 45 }
set_option maxRecDepth 100000 in
set_option maxHeartbeats 4000000 in
theorem c_X7_copy (l : Launch) (dC : Nat → ClassId) (dI : Nat → Nat → Nat) (cyI cyJ cyO : ClassId) (sz : Nat) (h_o a_o_sets a_o_ringFar a_o_ringTone a_o_currents a_o_warmths a_o_depths a_o_tape a_o_readFar a_o_readTone a_o_readSea a_o_code a_o_cellAt a_o_courseAt a_o_paceAt a_o_turnsAt a_o_slowAt a_o_fuelAt a_o_ringAt a_o_pieceParts a_o_dragCell a_o_dragBy a_o_sums a_o_shares a_o_keptFar a_o_image a_o_lanes a_o_sizes a_o_items a_o_movedItems : Nat) (o_taped : Int32) (o_at : Int32) (o_wrong : Int32) (o_level : Int32) (o_noRings : Int32) (o_noTones : Int32) (o_noFuel : Int32) (o_pieces : Int32) (o_drags : Int32) (o_all : Int64) (o_noPieces : Int32) (o_noDrags : Int32) (o_kept : Int32) (o_lanes : Nat → Int32) (o_sizes : Nat → Int32) (o_items : Nat → Int32) (o_movedItems : Nat → Int32) (x1 : Int32) (x2 : Int32) (x3 : Int32) (x4 : Int32) (x5 : Int32) (post : (Int32 × (Nat → Int32) × (Nat → Int32)) → Prop) (hf : okP (f_X7_copy x1 x2 x3 x4 x5 o_lanes o_sizes o_items o_movedItems) post) : Ci l (dC, dI) (tyL cyI cyJ cyO) yX7_copy wsX7_copy rm_X7_copy [.ref h_o, .int x1, .int x2, .int x3, .int x4, .int x5] sz (W_X7_copy cyI cyJ cyO h_o a_o_sets a_o_ringFar a_o_ringTone a_o_currents a_o_warmths a_o_depths a_o_tape a_o_readFar a_o_readTone a_o_readSea a_o_code a_o_cellAt a_o_courseAt a_o_paceAt a_o_turnsAt a_o_slowAt a_o_fuelAt a_o_ringAt a_o_pieceParts a_o_dragCell a_o_dragBy a_o_sums a_o_shares a_o_keptFar a_o_image a_o_lanes a_o_sizes a_o_items a_o_movedItems o_taped o_at o_wrong o_level o_noRings o_noTones o_noFuel o_pieces o_drags o_all o_noPieces o_noDrags o_kept o_lanes o_sizes o_items o_movedItems) zN (fun r u => post (r, u)) (fun u => (W_X7_copy cyI cyJ cyO h_o a_o_sets a_o_ringFar a_o_ringTone a_o_currents a_o_warmths a_o_depths a_o_tape a_o_readFar a_o_readTone a_o_readSea a_o_code a_o_cellAt a_o_courseAt a_o_paceAt a_o_turnsAt a_o_slowAt a_o_fuelAt a_o_ringAt a_o_pieceParts a_o_dragCell a_o_dragBy a_o_sums a_o_shares a_o_keptFar a_o_image a_o_lanes a_o_sizes a_o_items a_o_movedItems o_taped o_at o_wrong o_level o_noRings o_noTones o_noFuel o_pieces o_drags o_all o_noPieces o_noDrags o_kept o_lanes o_sizes u.1 u.2)) := by
  refine Met.ofW (cc := cX7_copy) (maxL := 7) (ret := (some .int)) (by decide) rfl ?_
  intro p e s m args below meth c s₁ B hml hv
  obtain ⟨rfl, hsz, hP, hK, hD0, hZ⟩ := hv
  have hx := B.exec
  have hb := B.bytes
  have hr := B.returns
  have hts := atoms_spec (ws := wsX7_copy) B.pre
  have hown : s.vm.findClass RX7 = some m.cls := findClass_of_methodNamed B.named
  have hlocks := B.notSynchronized
  subst hsz
  have hD := hD0.self (sz := s.heap.size)
  generalize hAe : va_A (W_X7_copy cyI cyJ cyO h_o a_o_sets a_o_ringFar a_o_ringTone a_o_currents a_o_warmths a_o_depths a_o_tape a_o_readFar a_o_readTone a_o_readSea a_o_code a_o_cellAt a_o_courseAt a_o_paceAt a_o_turnsAt a_o_slowAt a_o_fuelAt a_o_ringAt a_o_pieceParts a_o_dragCell a_o_dragBy a_o_sums a_o_shares a_o_keptFar a_o_image a_o_lanes a_o_sizes a_o_items a_o_movedItems o_taped o_at o_wrong o_level o_noRings o_noTones o_noFuel o_pieces o_drags o_all o_noPieces o_noDrags o_kept o_lanes o_sizes o_items o_movedItems) s.heap.size = A at hD hZ ⊢
  have hA : ∀ q : Nat, s.heap.size ≤ q → A q := fun q h => by rw [← hAe]; exact Or.inr h
  clear hAe hD0
  have hS : va_S A s.heap s.heap [] := va_S.rf
  have hl := lv_entry ([.ref h_o, .int x1, .int x2, .int x3, .int x4, .int x5]) (n := 7) (Nat.le_of_ble_eq_true rfl)
  rw [lg_entry_eq]
  generalize (lg_sl ([.ref h_o, .int x1, .int x2, .int x3, .int x4, .int x5]) ++ List.replicate (7 - (lg_sl ([.ref h_o, .int x1, .int x2, .int x3, .int x4, .int x5])).length) Slot.unset).toArray = ls at hl ⊢
  have hl : lv_has ls 7 [(0, .ref h_o), (1, .int x1), (2, .int x2), (3, .int x3), (4, .int x4), (5, .int x5)] := hl
  refine kW (fun Q hQ => ?_)
  have hq0 := hts _ (List.mem_cons_of_mem _ q_746)
  have hi7 : ∀ w ∈ u_ws RX7 TX7 42, w ∈ wsX7_copy := fun w h => List.mem_cons_of_mem _ (inX7 w h)
  have hq2 := hts _ (List.mem_cons_of_mem _ q_747)
  have hq3 := hts _ (List.mem_cons_of_mem _ q_744)
  have hw := hf
  have w138 : ∀ (n : Nat), ∀ (v3 : Int32) (v4 : Int32) (v5 : Int32) (v6 : Int32) (o_items : Nat → Int32) (o_movedItems : Nat → Int32) (H : Heap) (locs : List Loc), va_P (dC, dI) vwCl (W_X7_copy cyI cyJ cyO h_o a_o_sets a_o_ringFar a_o_ringTone a_o_currents a_o_warmths a_o_depths a_o_tape a_o_readFar a_o_readTone a_o_readSea a_o_code a_o_cellAt a_o_courseAt a_o_paceAt a_o_turnsAt a_o_slowAt a_o_fuelAt a_o_ringAt a_o_pieceParts a_o_dragCell a_o_dragBy a_o_sums a_o_shares a_o_keptFar a_o_image a_o_lanes a_o_sizes a_o_items a_o_movedItems o_taped o_at o_wrong o_level o_noRings o_noTones o_noFuel o_pieces o_drags o_all o_noPieces o_noDrags o_kept o_lanes o_sizes o_items o_movedItems) H → va_D A (W_X7_copy cyI cyJ cyO h_o a_o_sets a_o_ringFar a_o_ringTone a_o_currents a_o_warmths a_o_depths a_o_tape a_o_readFar a_o_readTone a_o_readSea a_o_code a_o_cellAt a_o_courseAt a_o_paceAt a_o_turnsAt a_o_slowAt a_o_fuelAt a_o_ringAt a_o_pieceParts a_o_dragCell a_o_dragBy a_o_sums a_o_shares a_o_keptFar a_o_image a_o_lanes a_o_sizes a_o_items a_o_movedItems o_taped o_at o_wrong o_level o_noRings o_noTones o_noFuel o_pieces o_drags o_all o_noPieces o_noDrags o_kept o_lanes o_sizes o_items o_movedItems) → va_S A s.heap H locs → ∀ (ls : Array Slot), lv_has ls 7 [(0, .ref h_o), (3, .int v3), (4, .int v4), (5, .int v5), (6, .int v6)] → okP (f_X7_copy_L138 n v3 v4 v5 v6 o_lanes o_sizes o_items o_movedItems) post → W p l e (headSpec wsX7_copy rm_X7_copy).room s m ([.ref h_o, .int x1, .int x2, .int x3, .int x4, .int x5] : List Value).toArray below meth c H locs 0 0 Q (F0 m 138 ls []) := by
    intro n
    induction n with
    | zero =>
      intro v3 v4 v5 v6 o_items o_movedItems H locs hP hD hS ls hl hw
      exact (ok0 hw).elim
    | succ n138 ih138 =>
      intro v3 v4 v5 v6 o_items o_movedItems H locs hP hD hS ls hl hw
      replace hw : okP (f_X7_copy_L138b (f_X7_copy_L138 n138) v3 v4 v5 v6 o_lanes o_sizes o_items o_movedItems) post := hw
      unfold f_X7_copy_L138b at hw
      refine lv_iload hx hb dX7_copy_138 (lv_at hl 4 rfl) ?_
      refine lv_iload hx hb dX7_copy_140 (lv_at hl 3 rfl) ?_
      refine lv_icmp_ge (tgt := 173) hx hb dX7_copy_142 (by decide) (fun c_1 => ?_) (fun c_1 => ?_)
      · replace hw := okT hw c_1
        clear c_1
        refine lv_iload hx hb dX7_copy_173 (lv_at hl 3 rfl) ?_
        rw [hQ]
        exact W.iret (v := v5) hx hb hr (fun t ht hW => ⟨⟨v5, (o_items, o_movedItems), rfl, okS hw, by rw [ht]; exact hP, va_K.moved hW.alike hK, hD⟩, hS.F ht⟩) hS.2.2 dX7_copy_175
      · replace hw := okF hw c_1
        clear c_1
        refine lv_aload_n hx hb dX7_copy_145 rfl (lv_at hl 0 rfl) ?_
        refine va_get (D := (dC, dI)) (ci := 7) (v := .ref a_o_items) (C := RX7) (T := TX7) (N := 42) hx hb hts hi7 hown hK hP 0 rfl rfl 40 (by decide) hq0 (fun _ h9 => h9) rfl dX7_copy_146 ?_
        refine lv_bipush (v := 16) hx hb dX7_copy_149 (by decide) ?_
        refine lv_iload_n hx hb dX7_copy_151 rfl (lv_at hl 1 rfl) ?_
        refine lv_imul hx hb dX7_copy_152 ?_
        refine lv_iload hx hb dX7_copy_153 (lv_at hl 2 rfl) ?_
        refine lv_iadd hx hb dX7_copy_155 ?_
        refine lv_iload hx hb dX7_copy_156 (lv_at hl 4 rfl) ?_
        refine lv_iadd hx hb dX7_copy_158 ?_
        refine lv_aload_n hx hb dX7_copy_159 rfl (lv_at hl 0 rfl) ?_
        refine va_get (D := (dC, dI)) (ci := 7) (v := .ref a_o_movedItems) (C := RX7) (T := TX7) (N := 42) hx hb hts hi7 hown hK hP 0 rfl rfl 41 (by decide) hq2 (fun _ h9 => h9) rfl dX7_copy_160 ?_
        refine lv_iload hx hb dX7_copy_163 (lv_at hl 4 rfl) ?_
        obtain ⟨h_2, hw⟩ := okC hw
        refine va_iald (i := v6) hx hb hK hP 4 0 rfl rfl h_2 dX7_copy_165 ?_
        refine lv_topi (fun x_3 ex_3 => ?_)
        replace hw := okN ex_3 hw
        clear ex_3
        obtain ⟨h_4, hw⟩ := okC hw
        refine va_iast (i := ((16 * v3) + v4) + v6) (x := x_3) hx hb hK hP hD hS 3 0 rfl rfl h_4 dX7_copy_166 (fun H locs hP hD hS => ?_)
        have hP : va_P (dC, dI) vwCl (W_X7_copy cyI cyJ cyO h_o a_o_sets a_o_ringFar a_o_ringTone a_o_currents a_o_warmths a_o_depths a_o_tape a_o_readFar a_o_readTone a_o_readSea a_o_code a_o_cellAt a_o_courseAt a_o_paceAt a_o_turnsAt a_o_slowAt a_o_fuelAt a_o_ringAt a_o_pieceParts a_o_dragCell a_o_dragBy a_o_sums a_o_shares a_o_keptFar a_o_image a_o_lanes a_o_sizes a_o_items a_o_movedItems o_taped o_at o_wrong o_level o_noRings o_noTones o_noFuel o_pieces o_drags o_all o_noPieces o_noDrags o_kept o_lanes o_sizes (upd o_items (((16 * v3) + v4) + v6).toNatClampNeg x_3) o_movedItems) H := hP
        have hD : va_D A (W_X7_copy cyI cyJ cyO h_o a_o_sets a_o_ringFar a_o_ringTone a_o_currents a_o_warmths a_o_depths a_o_tape a_o_readFar a_o_readTone a_o_readSea a_o_code a_o_cellAt a_o_courseAt a_o_paceAt a_o_turnsAt a_o_slowAt a_o_fuelAt a_o_ringAt a_o_pieceParts a_o_dragCell a_o_dragBy a_o_sums a_o_shares a_o_keptFar a_o_image a_o_lanes a_o_sizes a_o_items a_o_movedItems o_taped o_at o_wrong o_level o_noRings o_noTones o_noFuel o_pieces o_drags o_all o_noPieces o_noDrags o_kept o_lanes o_sizes (upd o_items (((16 * v3) + v4) + v6).toNatClampNeg x_3) o_movedItems) := hD
        obtain ⟨x_5, ex_5⟩ : ∃ y : Int32, y = v6 + 1 := ⟨_, rfl⟩
        replace hw := okN ex_5 hw
        refine lv_iinc (v := x_5) (lv' := [(6, .int x_5), (0, .ref h_o), (3, .int v3), (4, .int v4), (5, .int v5)]) hx hb dX7_copy_167 hl (k := 4) rfl (by rw [ex_5]; rfl) (by decide) rfl (fun ls hl => ?_)
        clear ex_5
        refine lv_goto (tgt := 138) hx hb dX7_copy_170 (by decide) ?_
        exact ih138 v3 v4 v5 x_5 (upd o_items (((16 * v3) + v4) + v6).toNatClampNeg x_3) o_movedItems _ _ hP hD hS _ (lv_sub hl [1, 2, 3, 4, 0] rfl) hw
  have w101 : ∀ (n : Nat), ∀ (v1 : Int32) (v2 : Int32) (v3 : Int32) (v4 : Int32) (v5 : Int32) (v6 : Int32) (o_items : Nat → Int32) (o_movedItems : Nat → Int32) (H : Heap) (locs : List Loc), va_P (dC, dI) vwCl (W_X7_copy cyI cyJ cyO h_o a_o_sets a_o_ringFar a_o_ringTone a_o_currents a_o_warmths a_o_depths a_o_tape a_o_readFar a_o_readTone a_o_readSea a_o_code a_o_cellAt a_o_courseAt a_o_paceAt a_o_turnsAt a_o_slowAt a_o_fuelAt a_o_ringAt a_o_pieceParts a_o_dragCell a_o_dragBy a_o_sums a_o_shares a_o_keptFar a_o_image a_o_lanes a_o_sizes a_o_items a_o_movedItems o_taped o_at o_wrong o_level o_noRings o_noTones o_noFuel o_pieces o_drags o_all o_noPieces o_noDrags o_kept o_lanes o_sizes o_items o_movedItems) H → va_D A (W_X7_copy cyI cyJ cyO h_o a_o_sets a_o_ringFar a_o_ringTone a_o_currents a_o_warmths a_o_depths a_o_tape a_o_readFar a_o_readTone a_o_readSea a_o_code a_o_cellAt a_o_courseAt a_o_paceAt a_o_turnsAt a_o_slowAt a_o_fuelAt a_o_ringAt a_o_pieceParts a_o_dragCell a_o_dragBy a_o_sums a_o_shares a_o_keptFar a_o_image a_o_lanes a_o_sizes a_o_items a_o_movedItems o_taped o_at o_wrong o_level o_noRings o_noTones o_noFuel o_pieces o_drags o_all o_noPieces o_noDrags o_kept o_lanes o_sizes o_items o_movedItems) → va_S A s.heap H locs → ∀ (ls : Array Slot), lv_has ls 7 [(0, .ref h_o), (1, .int v1), (2, .int v2), (3, .int v3), (4, .int v4), (5, .int v5), (6, .int v6)] → okP (f_X7_copy_L101 n v1 v2 v3 v4 v5 v6 o_lanes o_sizes o_items o_movedItems) post → W p l e (headSpec wsX7_copy rm_X7_copy).room s m ([.ref h_o, .int x1, .int x2, .int x3, .int x4, .int x5] : List Value).toArray below meth c H locs 0 0 Q (F0 m 101 ls []) := by
    intro n
    induction n with
    | zero =>
      intro v1 v2 v3 v4 v5 v6 o_items o_movedItems H locs hP hD hS ls hl hw
      exact (ok0 hw).elim
    | succ n101 ih101 =>
      intro v1 v2 v3 v4 v5 v6 o_items o_movedItems H locs hP hD hS ls hl hw
      replace hw : okP (f_X7_copy_L101b (f_X7_copy_L101 n101) v1 v2 v3 v4 v5 v6 o_lanes o_sizes o_items o_movedItems) post := hw
      unfold f_X7_copy_L101b at hw
      refine lv_iload hx hb dX7_copy_101 (lv_at hl 6 rfl) ?_
      refine lv_iload hx hb dX7_copy_103 (lv_at hl 5 rfl) ?_
      refine lv_icmp_ge (tgt := 135) hx hb dX7_copy_105 (by decide) (fun c_6 => ?_) (fun c_6 => ?_)
      · replace hw := okT hw c_6
        clear c_6
        refine lv_iconst (v := 0) hx hb dX7_copy_135 (by decide) ?_
        refine lv_istore (lv' := [(6, .int 0), (0, .ref h_o), (1, .int v1), (2, .int v2), (3, .int v3), (4, .int v4), (5, .int v5)]) hx hb dX7_copy_136 hl (by decide) rfl (fun ls hl => ?_)
        exact w138 FU v3 v4 v5 0 o_items o_movedItems _ _ hP hD hS _ (lv_sub hl [1, 4, 5, 6, 0] rfl) hw
      · replace hw := okF hw c_6
        clear c_6
        refine lv_aload_n hx hb dX7_copy_108 rfl (lv_at hl 0 rfl) ?_
        refine va_get (D := (dC, dI)) (ci := 7) (v := .ref a_o_movedItems) (C := RX7) (T := TX7) (N := 42) hx hb hts hi7 hown hK hP 0 rfl rfl 41 (by decide) hq2 (fun _ h9 => h9) rfl dX7_copy_109 ?_
        refine lv_iload hx hb dX7_copy_112 (lv_at hl 6 rfl) ?_
        refine lv_aload_n hx hb dX7_copy_114 rfl (lv_at hl 0 rfl) ?_
        refine va_get (D := (dC, dI)) (ci := 7) (v := .ref a_o_items) (C := RX7) (T := TX7) (N := 42) hx hb hts hi7 hown hK hP 0 rfl rfl 40 (by decide) hq0 (fun _ h9 => h9) rfl dX7_copy_115 ?_
        refine lv_bipush (v := 16) hx hb dX7_copy_118 (by decide) ?_
        refine lv_iload_n hx hb dX7_copy_120 rfl (lv_at hl 1 rfl) ?_
        refine lv_imul hx hb dX7_copy_121 ?_
        refine lv_iload_n hx hb dX7_copy_122 rfl (lv_at hl 2 rfl) ?_
        refine lv_iadd hx hb dX7_copy_123 ?_
        refine lv_iload hx hb dX7_copy_124 (lv_at hl 6 rfl) ?_
        refine lv_iadd hx hb dX7_copy_126 ?_
        obtain ⟨h_7, hw⟩ := okC hw
        refine va_iald (i := ((16 * v1) + v2) + v6) hx hb hK hP 3 0 rfl rfl h_7 dX7_copy_127 ?_
        refine lv_topi (fun x_8 ex_8 => ?_)
        replace hw := okN ex_8 hw
        clear ex_8
        obtain ⟨h_9, hw⟩ := okC hw
        refine va_iast (i := v6) (x := x_8) hx hb hK hP hD hS 4 0 rfl rfl h_9 dX7_copy_128 (fun H locs hP hD hS => ?_)
        have hP : va_P (dC, dI) vwCl (W_X7_copy cyI cyJ cyO h_o a_o_sets a_o_ringFar a_o_ringTone a_o_currents a_o_warmths a_o_depths a_o_tape a_o_readFar a_o_readTone a_o_readSea a_o_code a_o_cellAt a_o_courseAt a_o_paceAt a_o_turnsAt a_o_slowAt a_o_fuelAt a_o_ringAt a_o_pieceParts a_o_dragCell a_o_dragBy a_o_sums a_o_shares a_o_keptFar a_o_image a_o_lanes a_o_sizes a_o_items a_o_movedItems o_taped o_at o_wrong o_level o_noRings o_noTones o_noFuel o_pieces o_drags o_all o_noPieces o_noDrags o_kept o_lanes o_sizes o_items (upd o_movedItems v6.toNatClampNeg x_8)) H := hP
        have hD : va_D A (W_X7_copy cyI cyJ cyO h_o a_o_sets a_o_ringFar a_o_ringTone a_o_currents a_o_warmths a_o_depths a_o_tape a_o_readFar a_o_readTone a_o_readSea a_o_code a_o_cellAt a_o_courseAt a_o_paceAt a_o_turnsAt a_o_slowAt a_o_fuelAt a_o_ringAt a_o_pieceParts a_o_dragCell a_o_dragBy a_o_sums a_o_shares a_o_keptFar a_o_image a_o_lanes a_o_sizes a_o_items a_o_movedItems o_taped o_at o_wrong o_level o_noRings o_noTones o_noFuel o_pieces o_drags o_all o_noPieces o_noDrags o_kept o_lanes o_sizes o_items (upd o_movedItems v6.toNatClampNeg x_8)) := hD
        obtain ⟨x_10, ex_10⟩ : ∃ y : Int32, y = v6 + 1 := ⟨_, rfl⟩
        replace hw := okN ex_10 hw
        refine lv_iinc (v := x_10) (lv' := [(6, .int x_10), (0, .ref h_o), (1, .int v1), (2, .int v2), (3, .int v3), (4, .int v4), (5, .int v5)]) hx hb dX7_copy_129 hl (k := 6) rfl (by rw [ex_10]; rfl) (by decide) rfl (fun ls hl => ?_)
        clear ex_10
        refine lv_goto (tgt := 101) hx hb dX7_copy_132 (by decide) ?_
        exact ih101 v1 v2 v3 v4 v5 x_10 o_items (upd o_movedItems v6.toNatClampNeg x_8) _ _ hP hD hS _ (lv_sub hl [1, 2, 3, 4, 5, 6, 0] rfl) hw
  unfold f_X7_copy at hw
  have hP : va_P (dC, dI) vwCl (W_X7_copy cyI cyJ cyO h_o a_o_sets a_o_ringFar a_o_ringTone a_o_currents a_o_warmths a_o_depths a_o_tape a_o_readFar a_o_readTone a_o_readSea a_o_code a_o_cellAt a_o_courseAt a_o_paceAt a_o_turnsAt a_o_slowAt a_o_fuelAt a_o_ringAt a_o_pieceParts a_o_dragCell a_o_dragBy a_o_sums a_o_shares a_o_keptFar a_o_image a_o_lanes a_o_sizes a_o_items a_o_movedItems o_taped o_at o_wrong o_level o_noRings o_noTones o_noFuel o_pieces o_drags o_all o_noPieces o_noDrags o_kept o_lanes o_sizes o_items o_movedItems) s.heap := hP
  obtain ⟨H, hH⟩ : ∃ H, H = s.heap := ⟨_, rfl⟩
  obtain ⟨locs, hlo⟩ : ∃ x : List Loc, x = [] := ⟨_, rfl⟩
  have hP : va_P (dC, dI) vwCl (W_X7_copy cyI cyJ cyO h_o a_o_sets a_o_ringFar a_o_ringTone a_o_currents a_o_warmths a_o_depths a_o_tape a_o_readFar a_o_readTone a_o_readSea a_o_code a_o_cellAt a_o_courseAt a_o_paceAt a_o_turnsAt a_o_slowAt a_o_fuelAt a_o_ringAt a_o_pieceParts a_o_dragCell a_o_dragBy a_o_sums a_o_shares a_o_keptFar a_o_image a_o_lanes a_o_sizes a_o_items a_o_movedItems o_taped o_at o_wrong o_level o_noRings o_noTones o_noFuel o_pieces o_drags o_all o_noPieces o_noDrags o_kept o_lanes o_sizes o_items o_movedItems) H := by rw [hH]; exact hP
  have hS : va_S A s.heap H locs := by rw [hH, hlo]; exact hS
  refine kH hH hlo ?_
  clear hH hlo
  refine lv_iload_n hx hb dX7_copy_0 rfl (lv_at hl 1 rfl) ?_
  have hFc := va_free (wc := []) hD hS hA [] rfl
  refine kp_i (va_runS (As := [.int x1]) (rest := []) ⟨hx, hb, hml, hown, hts⟩ (c_X7_isSheet l dC dI cyI cyJ cyO H.size x1 _ (okb1 hw)) (va_cwS 1 hts (gdS (fun w h => List.mem_cons_of_mem _ h) q_1046 q_1047 q_8 q_1048) rfl rfl rfl (by decide +kernel) ⟨Nat.le_of_ble_eq_true rfl, Nat.le_of_ble_eq_true rfl⟩) (kpre zN_ok hK va_P0 va_D0 trivial hS hFc) rfl rfl hl.1 rfl (lv_room (Nat.le_of_ble_eq_true rfl)) dX7_copy_1 ⟨Nat.le_of_ble_eq_true rfl, Nat.le_of_ble_eq_true rfl⟩) hP hD hS hFc (fun r_11 H locs hw hP hS => ?_)
  try dsimp only at hw
  clear hFc
  refine lv_if_eq (tgt := 14) hx hb dX7_copy_4 (by decide) (fun c_12 => ?_) (fun c_12 => ?_)
  · replace hw := okT hw c_12
    clear c_12
    refine lv_iconst (v := (-1)) hx hb dX7_copy_14 (by decide) ?_
    rw [hQ]
    exact W.iret (v := (-1)) hx hb hr (fun t ht hW => ⟨⟨(-1), (o_items, o_movedItems), rfl, okS hw, by rw [ht]; exact hP, va_K.moved hW.alike hK, hD⟩, hS.F ht⟩) hS.2.2 dX7_copy_15
  · replace hw := okF hw c_12
    clear c_12
    refine lv_iload_n hx hb dX7_copy_7 rfl (lv_at hl 3 rfl) ?_
    have hFc := va_free (wc := []) hD hS hA [] rfl
    refine kp_i (va_runS (As := [.int x3]) (rest := []) ⟨hx, hb, hml, hown, hts⟩ (c_X7_isSheet l dC dI cyI cyJ cyO H.size x3 _ (okb1 hw)) (va_cwS 1 hts (gdS (fun w h => List.mem_cons_of_mem _ h) q_1046 q_1047 q_8 q_1048) rfl rfl rfl (by decide +kernel) ⟨Nat.le_of_ble_eq_true rfl, Nat.le_of_ble_eq_true rfl⟩) (kpre zN_ok hK va_P0 va_D0 trivial hS hFc) rfl rfl hl.1 rfl (lv_room (Nat.le_of_ble_eq_true rfl)) dX7_copy_8 ⟨Nat.le_of_ble_eq_true rfl, Nat.le_of_ble_eq_true rfl⟩) hP hD hS hFc (fun r_13 H locs hw hP hS => ?_)
    try dsimp only at hw
    clear hFc
    refine lv_if_ne (tgt := 16) hx hb dX7_copy_11 (by decide) (fun c_14 => ?_) (fun c_14 => ?_)
    · replace hw := okF hw c_14
      clear c_14
      refine lv_aload_n hx hb dX7_copy_16 rfl (lv_at hl 0 rfl) ?_
      refine va_get (D := (dC, dI)) (ci := 7) (v := .ref a_o_lanes) (C := RX7) (T := TX7) (N := 42) hx hb hts hi7 hown hK hP 0 rfl rfl 38 (by decide) hq3 (fun _ h9 => h9) rfl dX7_copy_17 ?_
      refine lv_iload_n hx hb dX7_copy_20 rfl (lv_at hl 1 rfl) ?_
      obtain ⟨h_15, hw⟩ := okC hw
      refine va_iald (i := x1) hx hb hK hP 1 0 rfl rfl h_15 dX7_copy_21 ?_
      refine lv_if_lt (tgt := 34) hx hb dX7_copy_22 (by decide) (fun c_16 => ?_) (fun c_16 => ?_)
      · replace hw := okT hw c_16
        clear c_16
        refine lv_bipush (v := (-11)) hx hb dX7_copy_34 (by decide) ?_
        rw [hQ]
        exact W.iret (v := (-11)) hx hb hr (fun t ht hW => ⟨⟨(-11), (o_items, o_movedItems), rfl, okS hw, by rw [ht]; exact hP, va_K.moved hW.alike hK, hD⟩, hS.F ht⟩) hS.2.2 dX7_copy_36
      · replace hw := okF hw c_16
        clear c_16
        refine lv_aload_n hx hb dX7_copy_25 rfl (lv_at hl 0 rfl) ?_
        refine va_get (D := (dC, dI)) (ci := 7) (v := .ref a_o_lanes) (C := RX7) (T := TX7) (N := 42) hx hb hts hi7 hown hK hP 0 rfl rfl 38 (by decide) hq3 (fun _ h9 => h9) rfl dX7_copy_26 ?_
        refine lv_iload_n hx hb dX7_copy_29 rfl (lv_at hl 3 rfl) ?_
        obtain ⟨h_17, hw⟩ := okC hw
        refine va_iald (i := x3) hx hb hK hP 1 0 rfl rfl h_17 dX7_copy_30 ?_
        refine lv_if_ge (tgt := 37) hx hb dX7_copy_31 (by decide) (fun c_18 => ?_) (fun c_18 => ?_)
        · replace hw := okT hw c_18
          clear c_18
          refine lv_aload_n hx hb dX7_copy_37 rfl (lv_at hl 0 rfl) ?_
          refine va_get (D := (dC, dI)) (ci := 7) (v := .ref a_o_lanes) (C := RX7) (T := TX7) (N := 42) hx hb hts hi7 hown hK hP 0 rfl rfl 38 (by decide) hq3 (fun _ h9 => h9) rfl dX7_copy_38 ?_
          refine lv_iload_n hx hb dX7_copy_41 rfl (lv_at hl 1 rfl) ?_
          obtain ⟨h_19, hw⟩ := okC hw
          refine va_iald (i := x1) hx hb hK hP 1 0 rfl rfl h_19 dX7_copy_42 ?_
          refine lv_aload_n hx hb dX7_copy_43 rfl (lv_at hl 0 rfl) ?_
          refine va_get (D := (dC, dI)) (ci := 7) (v := .ref a_o_lanes) (C := RX7) (T := TX7) (N := 42) hx hb hts hi7 hown hK hP 0 rfl rfl 38 (by decide) hq3 (fun _ h9 => h9) rfl dX7_copy_44 ?_
          refine lv_iload_n hx hb dX7_copy_47 rfl (lv_at hl 3 rfl) ?_
          obtain ⟨h_20, hw⟩ := okC hw
          refine va_iald (i := x3) hx hb hK hP 1 0 rfl rfl h_20 dX7_copy_48 ?_
          refine lv_icmp_eq (tgt := 55) hx hb dX7_copy_49 (by decide) (fun c_21 => ?_) (fun c_21 => ?_)
          · replace hw := okT hw c_21
            clear c_21
            refine lv_iload hx hb dX7_copy_55 (lv_at hl 5 rfl) ?_
            refine lv_if_lt (tgt := 95) hx hb dX7_copy_57 (by decide) (fun c_22 => ?_) (fun c_22 => ?_)
            · replace hw := okT hw c_22
              clear c_22
              refine lv_bipush (v := (-13)) hx hb dX7_copy_95 (by decide) ?_
              rw [hQ]
              exact W.iret (v := (-13)) hx hb hr (fun t ht hW => ⟨⟨(-13), (o_items, o_movedItems), rfl, okS hw, by rw [ht]; exact hP, va_K.moved hW.alike hK, hD⟩, hS.F ht⟩) hS.2.2 dX7_copy_97
            · replace hw := okF hw c_22
              clear c_22
              refine lv_aload_n hx hb dX7_copy_60 rfl (lv_at hl 0 rfl) ?_
              refine lv_iload_n hx hb dX7_copy_61 rfl (lv_at hl 1 rfl) ?_
              refine lv_aload_n hx hb dX7_copy_62 rfl (lv_at hl 0 rfl) ?_
              refine va_get (D := (dC, dI)) (ci := 7) (v := .ref a_o_lanes) (C := RX7) (T := TX7) (N := 42) hx hb hts hi7 hown hK hP 0 rfl rfl 38 (by decide) hq3 (fun _ h9 => h9) rfl dX7_copy_63 ?_
              refine lv_iload_n hx hb dX7_copy_66 rfl (lv_at hl 1 rfl) ?_
              obtain ⟨h_23, hw⟩ := okC hw
              refine va_iald (i := x1) hx hb hK hP 1 0 rfl rfl h_23 dX7_copy_67 ?_
              refine lv_iload_n hx hb dX7_copy_68 rfl (lv_at hl 2 rfl) ?_
              refine lv_iload hx hb dX7_copy_69 (lv_at hl 5 rfl) ?_
              have hPc := hP.sub (ws' := (W_X7_refuses cyI cyJ cyO h_o a_o_sets a_o_ringFar a_o_ringTone a_o_currents a_o_warmths a_o_depths a_o_tape a_o_readFar a_o_readTone a_o_readSea a_o_code a_o_cellAt a_o_courseAt a_o_paceAt a_o_turnsAt a_o_slowAt a_o_fuelAt a_o_ringAt a_o_pieceParts a_o_dragCell a_o_dragBy a_o_sums a_o_shares a_o_keptFar a_o_image a_o_lanes a_o_sizes a_o_items a_o_movedItems o_taped o_at o_wrong o_level o_noRings o_noTones o_noFuel o_pieces o_drags o_all o_noPieces o_noDrags o_kept o_lanes o_sizes)) [0, 1, 2] rfl
              have hDc := hD.sub (ws' := (W_X7_refuses cyI cyJ cyO h_o a_o_sets a_o_ringFar a_o_ringTone a_o_currents a_o_warmths a_o_depths a_o_tape a_o_readFar a_o_readTone a_o_readSea a_o_code a_o_cellAt a_o_courseAt a_o_paceAt a_o_turnsAt a_o_slowAt a_o_fuelAt a_o_ringAt a_o_pieceParts a_o_dragCell a_o_dragBy a_o_sums a_o_shares a_o_keptFar a_o_image a_o_lanes a_o_sizes a_o_items a_o_movedItems o_taped o_at o_wrong o_level o_noRings o_noTones o_noFuel o_pieces o_drags o_all o_noPieces o_noDrags o_kept o_lanes o_sizes)) [0, 1, 2] (by decide +kernel) rfl
              have hFc := va_free (wc := (W_X7_refuses cyI cyJ cyO h_o a_o_sets a_o_ringFar a_o_ringTone a_o_currents a_o_warmths a_o_depths a_o_tape a_o_readFar a_o_readTone a_o_readSea a_o_code a_o_cellAt a_o_courseAt a_o_paceAt a_o_turnsAt a_o_slowAt a_o_fuelAt a_o_ringAt a_o_pieceParts a_o_dragCell a_o_dragBy a_o_sums a_o_shares a_o_keptFar a_o_image a_o_lanes a_o_sizes a_o_items a_o_movedItems o_taped o_at o_wrong o_level o_noRings o_noTones o_noFuel o_pieces o_drags o_all o_noPieces o_noDrags o_kept o_lanes o_sizes)) hD hS hA [0, 1, 2] rfl
              refine kc_i (wr := [(a_o_items, .inl (cyI, 64, .inl o_items)), (a_o_movedItems, .inl (cyI, 16, .inl o_movedItems))]) (va_runV (As := [.int x1, .int (o_lanes x1.toNatClampNeg), .int x2, .int x5]) (rest := []) ⟨hx, hb, hml, hown, hts⟩ (c_X7_refuses l dC dI cyI cyJ cyO H.size h_o a_o_sets a_o_ringFar a_o_ringTone a_o_currents a_o_warmths a_o_depths a_o_tape a_o_readFar a_o_readTone a_o_readSea a_o_code a_o_cellAt a_o_courseAt a_o_paceAt a_o_turnsAt a_o_slowAt a_o_fuelAt a_o_ringAt a_o_pieceParts a_o_dragCell a_o_dragBy a_o_sums a_o_shares a_o_keptFar a_o_image a_o_lanes a_o_sizes a_o_items a_o_movedItems o_taped o_at o_wrong o_level o_noRings o_noTones o_noFuel o_pieces o_drags o_all o_noPieces o_noDrags o_kept o_lanes o_sizes x1 (o_lanes x1.toNatClampNeg) x2 x5 _ (okb1 hw)) (cwV 4 hts (gdV (fun w h => List.mem_cons_of_mem _ h) q_1053 q_1055 qs_43 q_8 q_1056) rfl rfl rfl (by decide +kernel) ⟨Nat.le_of_ble_eq_true rfl, Nat.le_of_ble_eq_true rfl⟩) ⟨(kpre zN_ok hK hPc hDc trivial hS hFc).1, va_recv hK hP (ci := 7) (q0 := 0) rfl rfl, (kpre zN_ok hK hPc hDc trivial hS hFc).2⟩ rfl rfl hl.1 rfl (lv_room (Nat.le_of_ble_eq_true rfl)) dX7_copy_71 ⟨Nat.le_of_ble_eq_true rfl, Nat.le_of_ble_eq_true rfl⟩) hP hD hS hFc [0, 1, 2] [3, 4] rfl rfl (by decide +kernel) (by decide +kernel) (fun r_24 u H locs hw hP hD hS => ?_)
              try dsimp only at hw
              have hP : va_P (dC, dI) vwCl (W_X7_copy cyI cyJ cyO h_o a_o_sets a_o_ringFar a_o_ringTone a_o_currents a_o_warmths a_o_depths a_o_tape a_o_readFar a_o_readTone a_o_readSea a_o_code a_o_cellAt a_o_courseAt a_o_paceAt a_o_turnsAt a_o_slowAt a_o_fuelAt a_o_ringAt a_o_pieceParts a_o_dragCell a_o_dragBy a_o_sums a_o_shares a_o_keptFar a_o_image a_o_lanes a_o_sizes a_o_items a_o_movedItems o_taped o_at o_wrong o_level o_noRings o_noTones o_noFuel o_pieces o_drags o_all o_noPieces o_noDrags o_kept o_lanes o_sizes o_items o_movedItems) H := hP.sub [2, 3, 4, 0, 1] rfl
              have hD : va_D A (W_X7_copy cyI cyJ cyO h_o a_o_sets a_o_ringFar a_o_ringTone a_o_currents a_o_warmths a_o_depths a_o_tape a_o_readFar a_o_readTone a_o_readSea a_o_code a_o_cellAt a_o_courseAt a_o_paceAt a_o_turnsAt a_o_slowAt a_o_fuelAt a_o_ringAt a_o_pieceParts a_o_dragCell a_o_dragBy a_o_sums a_o_shares a_o_keptFar a_o_image a_o_lanes a_o_sizes a_o_items a_o_movedItems o_taped o_at o_wrong o_level o_noRings o_noTones o_noFuel o_pieces o_drags o_all o_noPieces o_noDrags o_kept o_lanes o_sizes o_items o_movedItems) := hD.sub [2, 3, 4, 0, 1] (by decide +kernel) rfl
              clear hPc hDc hFc
              refine lv_if_lt (tgt := 95) hx hb dX7_copy_74 (by decide) (fun c_25 => ?_) (fun c_25 => ?_)
              · replace hw := okT hw c_25
                clear c_25
                refine lv_bipush (v := (-13)) hx hb dX7_copy_95 (by decide) ?_
                rw [hQ]
                exact W.iret (v := (-13)) hx hb hr (fun t ht hW => ⟨⟨(-13), (o_items, o_movedItems), rfl, okS hw, by rw [ht]; exact hP, va_K.moved hW.alike hK, hD⟩, hS.F ht⟩) hS.2.2 dX7_copy_97
              · replace hw := okF hw c_25
                clear c_25
                refine lv_aload_n hx hb dX7_copy_77 rfl (lv_at hl 0 rfl) ?_
                refine lv_iload_n hx hb dX7_copy_78 rfl (lv_at hl 3 rfl) ?_
                refine lv_aload_n hx hb dX7_copy_79 rfl (lv_at hl 0 rfl) ?_
                refine va_get (D := (dC, dI)) (ci := 7) (v := .ref a_o_lanes) (C := RX7) (T := TX7) (N := 42) hx hb hts hi7 hown hK hP 0 rfl rfl 38 (by decide) hq3 (fun _ h9 => h9) rfl dX7_copy_80 ?_
                refine lv_iload_n hx hb dX7_copy_83 rfl (lv_at hl 3 rfl) ?_
                obtain ⟨h_26, hw⟩ := okC hw
                refine va_iald (i := x3) hx hb hK hP 1 0 rfl rfl h_26 dX7_copy_84 ?_
                refine lv_iload hx hb dX7_copy_85 (lv_at hl 4 rfl) ?_
                refine lv_iload hx hb dX7_copy_87 (lv_at hl 5 rfl) ?_
                have hPc := hP.sub (ws' := (W_X7_refuses cyI cyJ cyO h_o a_o_sets a_o_ringFar a_o_ringTone a_o_currents a_o_warmths a_o_depths a_o_tape a_o_readFar a_o_readTone a_o_readSea a_o_code a_o_cellAt a_o_courseAt a_o_paceAt a_o_turnsAt a_o_slowAt a_o_fuelAt a_o_ringAt a_o_pieceParts a_o_dragCell a_o_dragBy a_o_sums a_o_shares a_o_keptFar a_o_image a_o_lanes a_o_sizes a_o_items a_o_movedItems o_taped o_at o_wrong o_level o_noRings o_noTones o_noFuel o_pieces o_drags o_all o_noPieces o_noDrags o_kept o_lanes o_sizes)) [0, 1, 2] rfl
                have hDc := hD.sub (ws' := (W_X7_refuses cyI cyJ cyO h_o a_o_sets a_o_ringFar a_o_ringTone a_o_currents a_o_warmths a_o_depths a_o_tape a_o_readFar a_o_readTone a_o_readSea a_o_code a_o_cellAt a_o_courseAt a_o_paceAt a_o_turnsAt a_o_slowAt a_o_fuelAt a_o_ringAt a_o_pieceParts a_o_dragCell a_o_dragBy a_o_sums a_o_shares a_o_keptFar a_o_image a_o_lanes a_o_sizes a_o_items a_o_movedItems o_taped o_at o_wrong o_level o_noRings o_noTones o_noFuel o_pieces o_drags o_all o_noPieces o_noDrags o_kept o_lanes o_sizes)) [0, 1, 2] (by decide +kernel) rfl
                have hFc := va_free (wc := (W_X7_refuses cyI cyJ cyO h_o a_o_sets a_o_ringFar a_o_ringTone a_o_currents a_o_warmths a_o_depths a_o_tape a_o_readFar a_o_readTone a_o_readSea a_o_code a_o_cellAt a_o_courseAt a_o_paceAt a_o_turnsAt a_o_slowAt a_o_fuelAt a_o_ringAt a_o_pieceParts a_o_dragCell a_o_dragBy a_o_sums a_o_shares a_o_keptFar a_o_image a_o_lanes a_o_sizes a_o_items a_o_movedItems o_taped o_at o_wrong o_level o_noRings o_noTones o_noFuel o_pieces o_drags o_all o_noPieces o_noDrags o_kept o_lanes o_sizes)) hD hS hA [0, 1, 2] rfl
                refine kc_i (wr := [(a_o_items, .inl (cyI, 64, .inl o_items)), (a_o_movedItems, .inl (cyI, 16, .inl o_movedItems))]) (va_runV (As := [.int x3, .int (o_lanes x3.toNatClampNeg), .int x4, .int x5]) (rest := []) ⟨hx, hb, hml, hown, hts⟩ (c_X7_refuses l dC dI cyI cyJ cyO H.size h_o a_o_sets a_o_ringFar a_o_ringTone a_o_currents a_o_warmths a_o_depths a_o_tape a_o_readFar a_o_readTone a_o_readSea a_o_code a_o_cellAt a_o_courseAt a_o_paceAt a_o_turnsAt a_o_slowAt a_o_fuelAt a_o_ringAt a_o_pieceParts a_o_dragCell a_o_dragBy a_o_sums a_o_shares a_o_keptFar a_o_image a_o_lanes a_o_sizes a_o_items a_o_movedItems o_taped o_at o_wrong o_level o_noRings o_noTones o_noFuel o_pieces o_drags o_all o_noPieces o_noDrags o_kept o_lanes o_sizes x3 (o_lanes x3.toNatClampNeg) x4 x5 _ (okb1 hw)) (cwV 4 hts (gdV (fun w h => List.mem_cons_of_mem _ h) q_1053 q_1055 qs_43 q_8 q_1056) rfl rfl rfl (by decide +kernel) ⟨Nat.le_of_ble_eq_true rfl, Nat.le_of_ble_eq_true rfl⟩) ⟨(kpre zN_ok hK hPc hDc trivial hS hFc).1, va_recv hK hP (ci := 7) (q0 := 0) rfl rfl, (kpre zN_ok hK hPc hDc trivial hS hFc).2⟩ rfl rfl hl.1 rfl (lv_room (Nat.le_of_ble_eq_true rfl)) dX7_copy_89 ⟨Nat.le_of_ble_eq_true rfl, Nat.le_of_ble_eq_true rfl⟩) hP hD hS hFc [0, 1, 2] [3, 4] rfl rfl (by decide +kernel) (by decide +kernel) (fun r_27 u H locs hw hP hD hS => ?_)
                try dsimp only at hw
                have hP : va_P (dC, dI) vwCl (W_X7_copy cyI cyJ cyO h_o a_o_sets a_o_ringFar a_o_ringTone a_o_currents a_o_warmths a_o_depths a_o_tape a_o_readFar a_o_readTone a_o_readSea a_o_code a_o_cellAt a_o_courseAt a_o_paceAt a_o_turnsAt a_o_slowAt a_o_fuelAt a_o_ringAt a_o_pieceParts a_o_dragCell a_o_dragBy a_o_sums a_o_shares a_o_keptFar a_o_image a_o_lanes a_o_sizes a_o_items a_o_movedItems o_taped o_at o_wrong o_level o_noRings o_noTones o_noFuel o_pieces o_drags o_all o_noPieces o_noDrags o_kept o_lanes o_sizes o_items o_movedItems) H := hP.sub [2, 3, 4, 0, 1] rfl
                have hD : va_D A (W_X7_copy cyI cyJ cyO h_o a_o_sets a_o_ringFar a_o_ringTone a_o_currents a_o_warmths a_o_depths a_o_tape a_o_readFar a_o_readTone a_o_readSea a_o_code a_o_cellAt a_o_courseAt a_o_paceAt a_o_turnsAt a_o_slowAt a_o_fuelAt a_o_ringAt a_o_pieceParts a_o_dragCell a_o_dragBy a_o_sums a_o_shares a_o_keptFar a_o_image a_o_lanes a_o_sizes a_o_items a_o_movedItems o_taped o_at o_wrong o_level o_noRings o_noTones o_noFuel o_pieces o_drags o_all o_noPieces o_noDrags o_kept o_lanes o_sizes o_items o_movedItems) := hD.sub [2, 3, 4, 0, 1] (by decide +kernel) rfl
                clear hPc hDc hFc
                refine lv_if_ge (tgt := 98) hx hb dX7_copy_92 (by decide) (fun c_28 => ?_) (fun c_28 => ?_)
                · replace hw := okT hw c_28
                  clear c_28
                  refine lv_iconst (v := 0) hx hb dX7_copy_98 (by decide) ?_
                  refine lv_istore (lv' := [(6, .int 0), (0, .ref h_o), (1, .int x1), (2, .int x2), (3, .int x3), (4, .int x4), (5, .int x5)]) hx hb dX7_copy_99 hl (by decide) rfl (fun ls hl => ?_)
                  exact w101 FU x1 x2 x3 x4 x5 0 o_items o_movedItems _ _ hP hD hS _ (lv_sub hl [1, 2, 3, 4, 5, 6, 0] rfl) hw
                · replace hw := okF hw c_28
                  clear c_28
                  refine lv_bipush (v := (-13)) hx hb dX7_copy_95 (by decide) ?_
                  rw [hQ]
                  exact W.iret (v := (-13)) hx hb hr (fun t ht hW => ⟨⟨(-13), (o_items, o_movedItems), rfl, okS hw, by rw [ht]; exact hP, va_K.moved hW.alike hK, hD⟩, hS.F ht⟩) hS.2.2 dX7_copy_97
          · replace hw := okF hw c_21
            clear c_21
            refine lv_bipush (v := (-12)) hx hb dX7_copy_52 (by decide) ?_
            rw [hQ]
            exact W.iret (v := (-12)) hx hb hr (fun t ht hW => ⟨⟨(-12), (o_items, o_movedItems), rfl, okS hw, by rw [ht]; exact hP, va_K.moved hW.alike hK, hD⟩, hS.F ht⟩) hS.2.2 dX7_copy_54
        · replace hw := okF hw c_18
          clear c_18
          refine lv_bipush (v := (-11)) hx hb dX7_copy_34 (by decide) ?_
          rw [hQ]
          exact W.iret (v := (-11)) hx hb hr (fun t ht hW => ⟨⟨(-11), (o_items, o_movedItems), rfl, okS hw, by rw [ht]; exact hP, va_K.moved hW.alike hK, hD⟩, hS.F ht⟩) hS.2.2 dX7_copy_36
    · replace hw := okT hw c_14
      clear c_14
      refine lv_iconst (v := (-1)) hx hb dX7_copy_14 (by decide) ?_
      rw [hQ]
      exact W.iret (v := (-1)) hx hb hr (fun t ht hW => ⟨⟨(-1), (o_items, o_movedItems), rfl, okS hw, by rw [ht]; exact hP, va_K.moved hW.alike hK, hD⟩, hS.F ht⟩) hS.2.2 dX7_copy_15
