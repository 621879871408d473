/-! ===== X1_inSeason ===== -/
theorem dX1_inSeason_0 : decode cX1_inSeason 0 = .ok (.bipush 100, 2) := by decide +kernel
theorem dX1_inSeason_2 : decode cX1_inSeason 2 = .ok (.iload_n 0, 1) := by decide +kernel
theorem dX1_inSeason_3 : decode cX1_inSeason 3 = .ok (.iconst 2, 1) := by decide +kernel
theorem dX1_inSeason_4 : decode cX1_inSeason 4 = .ok (.irem, 1) := by decide +kernel
theorem dX1_inSeason_5 : decode cX1_inSeason 5 = .ok (.imul, 1) := by decide +kernel
theorem dX1_inSeason_6 : decode cX1_inSeason 6 = .ok (.iload_n 1, 1) := by decide +kernel
theorem dX1_inSeason_7 : decode cX1_inSeason 7 = .ok (.iadd, 1) := by decide +kernel
theorem dX1_inSeason_8 : decode cX1_inSeason 8 = .ok (.ireturn, 1) := by decide +kernel
abbrev W_X1_inSeason (cyI cyJ cyO : ClassId) : va_W := []
def f_X1_inSeason (x1 : Int32) (x2 : Int32) : Option (Int32) :=
  some ((100 * (x1 - x1 / 2 * 2)) + x2)
abbrev rm_X1_inSeason : Room := { frames := 0, cells := 0, slots := 0, locals := 0 }
set_option maxRecDepth 100000 in
set_option maxHeartbeats 4000000 in
theorem c_X1_inSeason (l : Launch) (dC : Nat → ClassId) (dI : Nat → Nat → Nat) (cyI cyJ cyO : ClassId) (sz : Nat) (x1 : Int32) (x2 : Int32) (post : Int32 → Prop) (hf : okP (f_X1_inSeason x1 x2) post) : Ci l (dC, dI) (tyL cyI cyJ cyO) yX1_inSeason wsX1_inSeason rm_X1_inSeason [.int x1, .int x2] sz (W_X1_inSeason cyI cyJ cyO) zN (fun r (_ : Unit) => post r) (fun _ => (W_X1_inSeason cyI cyJ cyO)) := by
  refine Met.ofW (cc := cX1_inSeason) (maxL := 2) (ret := (some .int)) (by decide) rfl ?_
  intro p e s m args below meth c s₁ B hml hv
  obtain ⟨rfl, hsz, hP, hK, hD0, hZ⟩ := hv
  have hx := B.exec
  have hb := B.bytes
  have hr := B.returns
  have hts := atoms_spec (ws := wsX1_inSeason) B.pre
  have hown : s.vm.findClass RX1 = some m.cls := findClass_of_methodNamed B.named
  have hlocks := B.notSynchronized
  subst hsz
  have hD := hD0.self (sz := s.heap.size)
  generalize hAe : va_A (W_X1_inSeason cyI cyJ cyO) s.heap.size = A at hD hZ ⊢
  have hA : ∀ q : Nat, s.heap.size ≤ q → A q := fun q h => by rw [← hAe]; exact Or.inr h
  clear hAe hD0
  have hS : va_S A s.heap s.heap [] := va_S.rf
  have hl := lv_entry ([.int x1, .int x2]) (n := 2) (Nat.le_of_ble_eq_true rfl)
  rw [lg_entry_eq]
  generalize (lg_sl ([.int x1, .int x2]) ++ List.replicate (2 - (lg_sl ([.int x1, .int x2])).length) Slot.unset).toArray = ls at hl ⊢
  have hl : lv_has ls 2 [(0, .int x1), (1, .int x2)] := hl
  refine kW (fun Q hQ => ?_)
  have hw := hf
  unfold f_X1_inSeason at hw
  have hP : va_P (dC, dI) vwCl (W_X1_inSeason cyI cyJ cyO) s.heap := hP
  obtain ⟨H, hH⟩ : ∃ H, H = s.heap := ⟨_, rfl⟩
  obtain ⟨locs, hlo⟩ : ∃ x : List Loc, x = [] := ⟨_, rfl⟩
  have hP : va_P (dC, dI) vwCl (W_X1_inSeason cyI cyJ cyO) H := by rw [hH]; exact hP
  have hS : va_S A s.heap H locs := by rw [hH, hlo]; exact hS
  refine kH hH hlo ?_
  clear hH hlo
  refine lv_bipush (v := 100) hx hb dX1_inSeason_0 (by decide) ?_
  refine lv_iload_n hx hb dX1_inSeason_2 rfl (lv_at hl 0 rfl) ?_
  refine lv_iconst (v := 2) hx hb dX1_inSeason_3 (by decide) ?_
  refine lv_irem hx hb dX1_inSeason_4 (by decide) ?_
  refine lv_imul hx hb dX1_inSeason_5 ?_
  refine lv_iload_n hx hb dX1_inSeason_6 rfl (lv_at hl 1 rfl) ?_
  refine lv_iadd hx hb dX1_inSeason_7 ?_
  rw [hQ]
  exact W.iret (v := (100 * (x1 - x1 / 2 * 2)) + x2) hx hb hr (fun t ht hW => ⟨⟨(100 * (x1 - x1 / 2 * 2)) + x2, (), rfl, okS hw, by rw [ht]; exact hP, va_K.moved hW.alike hK, hD⟩, hS.F ht⟩) hS.2.2 dX1_inSeason_8
/-! ===== X1_isBeside ===== -/
theorem dX1_isBeside_0 : decode cX1_isBeside 0 = .ok (.iload_n 0, 1) := by decide +kernel
theorem dX1_isBeside_1 : decode cX1_isBeside 1 = .ok (.bipush 10, 2) := by decide +kernel
theorem dX1_isBeside_3 : decode cX1_isBeside 3 = .ok (.idiv, 1) := by decide +kernel
theorem dX1_isBeside_4 : decode cX1_isBeside 4 = .ok (.iload_n 1, 1) := by decide +kernel
theorem dX1_isBeside_5 : decode cX1_isBeside 5 = .ok (.bipush 10, 2) := by decide +kernel
theorem dX1_isBeside_7 : decode cX1_isBeside 7 = .ok (.idiv, 1) := by decide +kernel
theorem dX1_isBeside_8 : decode cX1_isBeside 8 = .ok (.isub, 1) := by decide +kernel
theorem dX1_isBeside_9 : decode cX1_isBeside 9 = .ok (.invokestatic 66, 3) := by decide +kernel
theorem dX1_isBeside_12 : decode cX1_isBeside 12 = .ok (.istore_n 2, 1) := by decide +kernel
theorem dX1_isBeside_13 : decode cX1_isBeside 13 = .ok (.iload_n 0, 1) := by decide +kernel
theorem dX1_isBeside_14 : decode cX1_isBeside 14 = .ok (.bipush 10, 2) := by decide +kernel
theorem dX1_isBeside_16 : decode cX1_isBeside 16 = .ok (.irem, 1) := by decide +kernel
theorem dX1_isBeside_17 : decode cX1_isBeside 17 = .ok (.iload_n 1, 1) := by decide +kernel
theorem dX1_isBeside_18 : decode cX1_isBeside 18 = .ok (.bipush 10, 2) := by decide +kernel
theorem dX1_isBeside_20 : decode cX1_isBeside 20 = .ok (.irem, 1) := by decide +kernel
theorem dX1_isBeside_21 : decode cX1_isBeside 21 = .ok (.isub, 1) := by decide +kernel
theorem dX1_isBeside_22 : decode cX1_isBeside 22 = .ok (.invokestatic 66, 3) := by decide +kernel
theorem dX1_isBeside_25 : decode cX1_isBeside 25 = .ok (.istore_n 3, 1) := by decide +kernel
theorem dX1_isBeside_26 : decode cX1_isBeside 26 = .ok (.iload_n 2, 1) := by decide +kernel
theorem dX1_isBeside_27 : decode cX1_isBeside 27 = .ok (.iload_n 3, 1) := by decide +kernel
theorem dX1_isBeside_28 : decode cX1_isBeside 28 = .ok (.invokestatic 72, 3) := by decide +kernel
theorem dX1_isBeside_31 : decode cX1_isBeside 31 = .ok (.iconst 1, 1) := by decide +kernel
theorem dX1_isBeside_32 : decode cX1_isBeside 32 = .ok (.if_icmp .ne 7, 3) := by decide +kernel
theorem dX1_isBeside_35 : decode cX1_isBeside 35 = .ok (.iconst 1, 1) := by decide +kernel
theorem dX1_isBeside_36 : decode cX1_isBeside 36 = .ok (.goto 4, 3) := by decide +kernel
theorem dX1_isBeside_39 : decode cX1_isBeside 39 = .ok (.iconst 0, 1) := by decide +kernel
theorem dX1_isBeside_40 : decode cX1_isBeside 40 = .ok (.ireturn, 1) := by decide +kernel
abbrev W_X1_isBeside (cyI cyJ cyO : ClassId) : va_W := []
def f_X1_isBeside (x1 : Int32) (x2 : Int32) : Option (Int32) :=
  nm (if 0 ≤ ((x1 / 10) - (x2 / 10)) then ((x1 / 10) - (x2 / 10)) else 0 - ((x1 / 10) - (x2 / 10))) fun x_1 =>
  nm (if 0 ≤ ((x1 - x1 / 10 * 10) - (x2 - x2 / 10 * 10)) then ((x1 - x1 / 10 * 10) - (x2 - x2 / 10 * 10)) else 0 - ((x1 - x1 / 10 * 10) - (x2 - x2 / 10 * 10))) fun x_2 =>
  if (if x_1 < x_2 then x_2 else x_1) = 1 then
    some 1
  else
    some 0
abbrev rm_X1_isBeside : Room := { frames := 1, cells := 0, slots := 0, locals := 21 }
set_option maxRecDepth 100000 in
set_option maxHeartbeats 4000000 in
theorem c_X1_isBeside (l : Launch) (dC : Nat → ClassId) (dI : Nat → Nat → Nat) (cyI cyJ cyO : ClassId) (sz : Nat) (x1 : Int32) (x2 : Int32) (post : Int32 → Prop) (hf : okP (f_X1_isBeside x1 x2) post) : Ci l (dC, dI) (tyL cyI cyJ cyO) yX1_isBeside wsX1_isBeside rm_X1_isBeside [.int x1, .int x2] sz (W_X1_isBeside cyI cyJ cyO) zN (fun r (_ : Unit) => post r) (fun _ => (W_X1_isBeside cyI cyJ cyO)) := by
  refine Met.ofW (cc := cX1_isBeside) (maxL := 4) (ret := (some .boolean)) (by decide) rfl ?_
  intro p e s m args below meth c s₁ B hml hv
  obtain ⟨rfl, hsz, hP, hK, hD0, hZ⟩ := hv
  have hx := B.exec
  have hb := B.bytes
  have hr := B.returns
  have hts := atoms_spec (ws := wsX1_isBeside) B.pre
  have hown : s.vm.findClass RX1 = some m.cls := findClass_of_methodNamed B.named
  have hlocks := B.notSynchronized
  subst hsz
  have hD := hD0.self (sz := s.heap.size)
  generalize hAe : va_A (W_X1_isBeside cyI cyJ cyO) s.heap.size = A at hD hZ ⊢
  have hA : ∀ q : Nat, s.heap.size ≤ q → A q := fun q h => by rw [← hAe]; exact Or.inr h
  clear hAe hD0
  have hS : va_S A s.heap s.heap [] := va_S.rf
  have hl := lv_entry ([.int x1, .int x2]) (n := 4) (Nat.le_of_ble_eq_true rfl)
  rw [lg_entry_eq]
  generalize (lg_sl ([.int x1, .int x2]) ++ List.replicate (4 - (lg_sl ([.int x1, .int x2])).length) Slot.unset).toArray = ls at hl ⊢
  have hl : lv_has ls 4 [(0, .int x1), (1, .int x2)] := hl
  refine kW (fun Q hQ => ?_)
  have hq0 := hts _ (List.mem_cons_of_mem _ q_523)
  have hq1 := hts _ (List.mem_cons_of_mem _ q_433)
  have hq2 := hts _ (List.mem_cons_of_mem _ q_9)
  have hq3 := hts _ (List.mem_cons_of_mem _ q_434)
  have hq4 := hts _ (List.mem_cons_of_mem _ q_524)
  have hq5 := hts _ (List.mem_cons_of_mem _ q_525)
  have hq6 := hts _ (List.mem_cons_of_mem _ q_526)
  have hw := hf
  unfold f_X1_isBeside at hw
  have hP : va_P (dC, dI) vwCl (W_X1_isBeside cyI cyJ cyO) s.heap := hP
  obtain ⟨H, hH⟩ : ∃ H, H = s.heap := ⟨_, rfl⟩
  obtain ⟨locs, hlo⟩ : ∃ x : List Loc, x = [] := ⟨_, rfl⟩
  have hP : va_P (dC, dI) vwCl (W_X1_isBeside cyI cyJ cyO) H := by rw [hH]; exact hP
  have hS : va_S A s.heap H locs := by rw [hH, hlo]; exact hS
  refine kH hH hlo ?_
  clear hH hlo
  refine lv_iload_n hx hb dX1_isBeside_0 rfl (lv_at hl 0 rfl) ?_
  refine lv_bipush (v := 10) hx hb dX1_isBeside_1 (by decide) ?_
  refine lv_idiv hx hb dX1_isBeside_3 (by decide) ?_
  refine lv_iload_n hx hb dX1_isBeside_4 rfl (lv_at hl 1 rfl) ?_
  refine lv_bipush (v := 10) hx hb dX1_isBeside_5 (by decide) ?_
  refine lv_idiv hx hb dX1_isBeside_7 (by decide) ?_
  refine lv_isub hx hb dX1_isBeside_8 ?_
  refine va_mabs hx hb (hml.trans hl.1.symm) hown hq0 hq1 hq2 hq3 (Nat.le_of_ble_eq_true rfl) (Nat.le_of_ble_eq_true rfl) (Nat.le_of_ble_eq_true rfl) (Nat.le_of_ble_eq_true rfl) dX1_isBeside_9 ?_
  refine lv_topi (fun x_1 ex_1 => ?_)
  replace hw := okN ex_1 hw
  clear ex_1
  refine lv_istore_n (lv' := [(2, .int x_1), (0, .int x1), (1, .int x2)]) hx hb dX1_isBeside_12 rfl hl (by decide) rfl (fun ls hl => ?_)
  refine lv_iload_n hx hb dX1_isBeside_13 rfl (lv_at hl 1 rfl) ?_
  refine lv_bipush (v := 10) hx hb dX1_isBeside_14 (by decide) ?_
  refine lv_irem hx hb dX1_isBeside_16 (by decide) ?_
  refine lv_iload_n hx hb dX1_isBeside_17 rfl (lv_at hl 2 rfl) ?_
  refine lv_bipush (v := 10) hx hb dX1_isBeside_18 (by decide) ?_
  refine lv_irem hx hb dX1_isBeside_20 (by decide) ?_
  refine lv_isub hx hb dX1_isBeside_21 ?_
  refine va_mabs hx hb (hml.trans hl.1.symm) hown hq0 hq1 hq2 hq3 (Nat.le_of_ble_eq_true rfl) (Nat.le_of_ble_eq_true rfl) (Nat.le_of_ble_eq_true rfl) (Nat.le_of_ble_eq_true rfl) dX1_isBeside_22 ?_
  refine lv_topi (fun x_2 ex_2 => ?_)
  replace hw := okN ex_2 hw
  clear ex_2
  refine lv_istore_n (lv' := [(3, .int x_2), (2, .int x_1), (0, .int x1), (1, .int x2)]) hx hb dX1_isBeside_25 rfl hl (by decide) rfl (fun ls hl => ?_)
  refine lv_iload_n hx hb dX1_isBeside_26 rfl (lv_at hl 1 rfl) ?_
  refine lv_iload_n hx hb dX1_isBeside_27 rfl (lv_at hl 0 rfl) ?_
  refine va_mmax hx hb (hml.trans hl.1.symm) hown hq4 hq5 hq2 hq6 (Nat.le_of_ble_eq_true rfl) (Nat.le_of_ble_eq_true rfl) (Nat.le_of_ble_eq_true rfl) (Nat.le_of_ble_eq_true rfl) dX1_isBeside_28 ?_
  refine lv_iconst (v := 1) hx hb dX1_isBeside_31 (by decide) ?_
  refine lv_icmp_ne (tgt := 39) hx hb dX1_isBeside_32 (by decide) (fun c_3 => ?_) (fun c_3 => ?_)
  · replace hw := okF hw c_3
    clear c_3
    refine lv_iconst (v := 0) hx hb dX1_isBeside_39 (by decide) ?_
    rw [hQ]
    exact W.zret (v := 0) hx hb hr (by decide) (fun t ht hW => ⟨⟨0, (), rfl, okS hw, by rw [ht]; exact hP, va_K.moved hW.alike hK, hD⟩, hS.F ht⟩) hS.2.2 dX1_isBeside_40
  · replace hw := okT hw c_3
    clear c_3
    refine lv_iconst (v := 1) hx hb dX1_isBeside_35 (by decide) ?_
    refine lv_goto (tgt := 40) hx hb dX1_isBeside_36 (by decide) ?_
    rw [hQ]
    exact W.zret (v := 1) hx hb hr (by decide) (fun t ht hW => ⟨⟨1, (), rfl, okS hw, by rw [ht]; exact hP, va_K.moved hW.alike hK, hD⟩, hS.F ht⟩) hS.2.2 dX1_isBeside_40
/-! ===== X1_monthOn ===== -/
theorem dX1_monthOn_0 : decode cX1_monthOn 0 = .ok (.iload_n 1, 1) := by decide +kernel
theorem dX1_monthOn_1 : decode cX1_monthOn 1 = .ok (.aload_n 0, 1) := by decide +kernel
theorem dX1_monthOn_2 : decode cX1_monthOn 2 = .ok (.getfield 15, 3) := by decide +kernel
theorem dX1_monthOn_5 : decode cX1_monthOn 5 = .ok (.getfield 57, 3) := by decide +kernel
theorem dX1_monthOn_8 : decode cX1_monthOn 8 = .ok (.iload_n 2, 1) := by decide +kernel
theorem dX1_monthOn_9 : decode cX1_monthOn 9 = .ok (.iload_n 1, 1) := by decide +kernel
theorem dX1_monthOn_10 : decode cX1_monthOn 10 = .ok (.invokestatic 41, 3) := by decide +kernel
theorem dX1_monthOn_13 : decode cX1_monthOn 13 = .ok (.iaload, 1) := by decide +kernel
theorem dX1_monthOn_14 : decode cX1_monthOn 14 = .ok (.iconst 1, 1) := by decide +kernel
theorem dX1_monthOn_15 : decode cX1_monthOn 15 = .ok (.invokestatic 60, 3) := by decide +kernel
theorem dX1_monthOn_18 : decode cX1_monthOn 18 = .ok (.istore 4, 2) := by decide +kernel
theorem dX1_monthOn_20 : decode cX1_monthOn 20 = .ok (.iload 4, 2) := by decide +kernel
theorem dX1_monthOn_22 : decode cX1_monthOn 22 = .ok (.iconst (-1), 1) := by decide +kernel
theorem dX1_monthOn_23 : decode cX1_monthOn 23 = .ok (.if_icmp .ne 7, 3) := by decide +kernel
theorem dX1_monthOn_26 : decode cX1_monthOn 26 = .ok (.iload_n 1, 1) := by decide +kernel
theorem dX1_monthOn_27 : decode cX1_monthOn 27 = .ok (.goto 5, 3) := by decide +kernel
theorem dX1_monthOn_30 : decode cX1_monthOn 30 = .ok (.iload 4, 2) := by decide +kernel
theorem dX1_monthOn_32 : decode cX1_monthOn 32 = .ok (.istore 5, 2) := by decide +kernel
theorem dX1_monthOn_34 : decode cX1_monthOn 34 = .ok (.iload_n 3, 1) := by decide +kernel
theorem dX1_monthOn_35 : decode cX1_monthOn 35 = .ok (.iconst 1, 1) := by decide +kernel
theorem dX1_monthOn_36 : decode cX1_monthOn 36 = .ok (.if_icmp .ne 22, 3) := by decide +kernel
theorem dX1_monthOn_39 : decode cX1_monthOn 39 = .ok (.iload 5, 2) := by decide +kernel
theorem dX1_monthOn_41 : decode cX1_monthOn 41 = .ok (.aload_n 0, 1) := by decide +kernel
theorem dX1_monthOn_42 : decode cX1_monthOn 42 = .ok (.getfield 15, 3) := by decide +kernel
theorem dX1_monthOn_45 : decode cX1_monthOn 45 = .ok (.getfield 63, 3) := by decide +kernel
theorem dX1_monthOn_48 : decode cX1_monthOn 48 = .ok (.bipush 7, 2) := by decide +kernel
theorem dX1_monthOn_50 : decode cX1_monthOn 50 = .ok (.iaload, 1) := by decide +kernel
theorem dX1_monthOn_51 : decode cX1_monthOn 51 = .ok (.iconst 1, 1) := by decide +kernel
theorem dX1_monthOn_52 : decode cX1_monthOn 52 = .ok (.invokestatic 60, 3) := by decide +kernel
theorem dX1_monthOn_55 : decode cX1_monthOn 55 = .ok (.goto 4, 3) := by decide +kernel
theorem dX1_monthOn_58 : decode cX1_monthOn 58 = .ok (.iconst (-1), 1) := by decide +kernel
theorem dX1_monthOn_59 : decode cX1_monthOn 59 = .ok (.istore 6, 2) := by decide +kernel
theorem dX1_monthOn_61 : decode cX1_monthOn 61 = .ok (.iload 6, 2) := by decide +kernel
theorem dX1_monthOn_63 : decode cX1_monthOn 63 = .ok (.iconst (-1), 1) := by decide +kernel
theorem dX1_monthOn_64 : decode cX1_monthOn 64 = .ok (.if_icmp .ne 8, 3) := by decide +kernel
theorem dX1_monthOn_67 : decode cX1_monthOn 67 = .ok (.iload 5, 2) := by decide +kernel
theorem dX1_monthOn_69 : decode cX1_monthOn 69 = .ok (.goto 5, 3) := by decide +kernel
theorem dX1_monthOn_72 : decode cX1_monthOn 72 = .ok (.iload 6, 2) := by decide +kernel
theorem dX1_monthOn_74 : decode cX1_monthOn 74 = .ok (.ireturn, 1) := by decide +kernel
abbrev W_X1_monthOn (cyI cyJ cyO : ClassId) (h_o h_told a_o_known a_told_settings a_told_howFar a_told_tones a_told_currents a_told_warmths a_told_depths a_told_fars a_told_pieceCells a_told_pieceMonths a_told_pieceHighs a_told_pieceAges a_told_pieceNeeds a_told_dragCells a_told_dragEighths : Nat) (told_pieceCount : Int32) (told_dragCount : Int32) (told_settings : Nat → Int32) (told_currents : Nat → Int32) : va_W := [(h_o, .inr (1, [.ref h_told, .ref a_o_known])), (h_told, .inr (4, [.ref a_told_settings, .ref a_told_howFar, .ref a_told_tones, .ref a_told_currents, .ref a_told_warmths, .ref a_told_depths, .ref a_told_fars, .ref a_told_pieceCells, .ref a_told_pieceMonths, .ref a_told_pieceHighs, .ref a_told_pieceAges, .ref a_told_pieceNeeds, .ref a_told_dragCells, .ref a_told_dragEighths, .int told_pieceCount, .int told_dragCount])), (a_told_settings, .inl (cyI, 8, .inl told_settings)), (a_told_currents, .inl (cyI, 200, .inl told_currents))]
def f_X1_monthOn_B59 (v5 : Int32) (y0 : Int32) (told_settings : Nat → Int32) (told_currents : Nat → Int32) : Option (Int32) :=
  if y0 = (-1) then
    some v5
  else
    some y0
def f_X1_monthOn_B32 (v3 : Int32) (y0 : Int32) (told_settings : Nat → Int32) (told_currents : Nat → Int32) : Option (Int32) :=
  if v3 = 1 then
    bd1 (f_X6_ahead y0 (told_settings 7) 1) fun r_1 =>
    f_X1_monthOn_B59 y0 r_1 told_settings told_currents
  else
    f_X1_monthOn_B59 y0 (-1) told_settings told_currents
def f_X1_monthOn (x1 : Int32) (x2 : Int32) (x3 : Int32) (told_settings : Nat → Int32) (told_currents : Nat → Int32) : Option (Int32) :=
  bd1 (f_X1_inSeason x2 x1) fun r_2 =>
  chk (¬ (r_2 < 0 ∨ 200 ≤ r_2.toNatClampNeg)) <|
  bd1 (f_X6_ahead x1 (told_currents r_2.toNatClampNeg) 1) fun r_3 =>
  if r_3 = (-1) then
    f_X1_monthOn_B32 x3 x1 told_settings told_currents
  else
    f_X1_monthOn_B32 x3 r_3 told_settings told_currents
abbrev rm_X1_monthOn : Room := { frames := 1, cells := 0, slots := 0, locals := 25 }
set_option maxRecDepth 100000 in
set_option maxHeartbeats 4000000 in
theorem c_X1_monthOn (l : Launch) (dC : Nat → ClassId) (dI : Nat → Nat → Nat) (cyI cyJ cyO : ClassId) (sz : Nat) (tD tR tL tM : Nat) (h_o h_told a_o_known a_told_settings a_told_howFar a_told_tones a_told_currents a_told_warmths a_told_depths a_told_fars a_told_pieceCells a_told_pieceMonths a_told_pieceHighs a_told_pieceAges a_told_pieceNeeds a_told_dragCells a_told_dragEighths : Nat) (told_pieceCount : Int32) (told_dragCount : Int32) (told_settings : Nat → Int32) (told_currents : Nat → Int32) (x1 : Int32) (x2 : Int32) (x3 : Int32) (post : Int32 → Prop) (hf : okP (f_X1_monthOn x1 x2 x3 told_settings told_currents) post) : Ci l (dC, dI) (tyL cyI cyJ cyO) yX1_monthOn wsX1_monthOn rm_X1_monthOn [.ref h_o, .int x1, .int x2, .int x3] sz (W_X1_monthOn cyI cyJ cyO h_o h_told a_o_known a_told_settings a_told_howFar a_told_tones a_told_currents a_told_warmths a_told_depths a_told_fars a_told_pieceCells a_told_pieceMonths a_told_pieceHighs a_told_pieceAges a_told_pieceNeeds a_told_dragCells a_told_dragEighths told_pieceCount told_dragCount told_settings told_currents) (zX tD tR tL tM) (fun r (_ : Unit) => post r) (fun _ => (W_X1_monthOn cyI cyJ cyO h_o h_told a_o_known a_told_settings a_told_howFar a_told_tones a_told_currents a_told_warmths a_told_depths a_told_fars a_told_pieceCells a_told_pieceMonths a_told_pieceHighs a_told_pieceAges a_told_pieceNeeds a_told_dragCells a_told_dragEighths told_pieceCount told_dragCount told_settings told_currents)) := by
  refine Met.ofW (cc := cX1_monthOn) (maxL := 7) (ret := (some .int)) (by decide) rfl ?_
  intro p e s m args below meth c s₁ B hml hv
  obtain ⟨rfl, hsz, hP, hK, hD0, hZ⟩ := hv
  have hx := B.exec
  have hb := B.bytes
  have hr := B.returns
  have hts := atoms_spec (ws := wsX1_monthOn) B.pre
  have hown : s.vm.findClass RX1 = some m.cls := findClass_of_methodNamed B.named
  have hlocks := B.notSynchronized
  subst hsz
  have hD := hD0.self (sz := s.heap.size)
  generalize hAe : va_A (W_X1_monthOn cyI cyJ cyO h_o h_told a_o_known a_told_settings a_told_howFar a_told_tones a_told_currents a_told_warmths a_told_depths a_told_fars a_told_pieceCells a_told_pieceMonths a_told_pieceHighs a_told_pieceAges a_told_pieceNeeds a_told_dragCells a_told_dragEighths told_pieceCount told_dragCount told_settings told_currents) s.heap.size = A at hD hZ ⊢
  have hA : ∀ q : Nat, s.heap.size ≤ q → A q := fun q h => by rw [← hAe]; exact Or.inr h
  clear hAe hD0
  have hS : va_S A s.heap s.heap [] := va_S.rf
  have hl := lv_entry ([.ref h_o, .int x1, .int x2, .int x3]) (n := 7) (Nat.le_of_ble_eq_true rfl)
  rw [lg_entry_eq]
  generalize (lg_sl ([.ref h_o, .int x1, .int x2, .int x3]) ++ List.replicate (7 - (lg_sl ([.ref h_o, .int x1, .int x2, .int x3])).length) Slot.unset).toArray = ls at hl ⊢
  have hl : lv_has ls 7 [(0, .ref h_o), (1, .int x1), (2, .int x2), (3, .int x3)] := hl
  refine kW (fun Q hQ => ?_)
  have hq0 := hts _ (List.mem_cons_of_mem _ q_197)
  have hi1 : ∀ w ∈ u_ws RX1 TX1 2, w ∈ wsX1_monthOn := fun w h => List.mem_cons_of_mem _ (inX1 w h)
  have hq2 := hts _ (List.mem_cons_of_mem _ q_35)
  have hi4 : ∀ w ∈ u_ws RX4 TX4 16, w ∈ wsX1_monthOn := fun w h => List.mem_cons_of_mem _ (inX4 w h)
  have hq4 := hts _ (List.mem_cons_of_mem _ q_1)
  have hq5 := hts _ (List.mem_cons_of_mem _ q_417)
  have hq6 := hts _ (List.mem_cons_of_mem _ q_43)
  have hw := hf
  have w59 : ∀ (v5 : Int32) (y0 : Int32) (H : Heap) (locs : List Loc), va_P (dC, dI) vwCl (W_X1_monthOn cyI cyJ cyO h_o h_told a_o_known a_told_settings a_told_howFar a_told_tones a_told_currents a_told_warmths a_told_depths a_told_fars a_told_pieceCells a_told_pieceMonths a_told_pieceHighs a_told_pieceAges a_told_pieceNeeds a_told_dragCells a_told_dragEighths told_pieceCount told_dragCount told_settings told_currents) H → va_D A (W_X1_monthOn cyI cyJ cyO h_o h_told a_o_known a_told_settings a_told_howFar a_told_tones a_told_currents a_told_warmths a_told_depths a_told_fars a_told_pieceCells a_told_pieceMonths a_told_pieceHighs a_told_pieceAges a_told_pieceNeeds a_told_dragCells a_told_dragEighths told_pieceCount told_dragCount told_settings told_currents) → va_S A s.heap H locs → ∀ (ls : Array Slot), lv_has ls 7 [(5, .int v5)] → okP (f_X1_monthOn_B59 v5 y0 told_settings told_currents) post → W p l e (headSpec wsX1_monthOn rm_X1_monthOn).room s m ([.ref h_o, .int x1, .int x2, .int x3] : List Value).toArray below meth c H locs 0 0 Q (F0 m 59 ls [.int y0]) := by
    intro v5 y0 H locs hP hD hS ls hl hw
    unfold f_X1_monthOn_B59 at hw
    refine lv_istore (lv' := [(6, .int y0), (5, .int v5)]) hx hb dX1_monthOn_59 hl (by decide) rfl (fun ls hl => ?_)
    refine lv_iload hx hb dX1_monthOn_61 (lv_at hl 0 rfl) ?_
    refine lv_iconst (v := (-1)) hx hb dX1_monthOn_63 (by decide) ?_
    refine lv_icmp_ne (tgt := 72) hx hb dX1_monthOn_64 (by decide) (fun c_1 => ?_) (fun c_1 => ?_)
    · replace hw := okF hw c_1
      clear c_1
      refine lv_iload hx hb dX1_monthOn_72 (lv_at hl 0 rfl) ?_
      rw [hQ]
      exact W.iret (v := y0) hx hb hr (fun t ht hW => ⟨⟨y0, (), rfl, okS hw, by rw [ht]; exact hP, va_K.moved hW.alike hK, hD⟩, hS.F ht⟩) hS.2.2 dX1_monthOn_74
    · replace hw := okT hw c_1
      clear c_1
      refine lv_iload hx hb dX1_monthOn_67 (lv_at hl 1 rfl) ?_
      refine lv_goto (tgt := 74) hx hb dX1_monthOn_69 (by decide) ?_
      rw [hQ]
      exact W.iret (v := v5) hx hb hr (fun t ht hW => ⟨⟨v5, (), rfl, okS hw, by rw [ht]; exact hP, va_K.moved hW.alike hK, hD⟩, hS.F ht⟩) hS.2.2 dX1_monthOn_74
  have w32 : ∀ (v3 : Int32) (y0 : Int32) (H : Heap) (locs : List Loc), va_P (dC, dI) vwCl (W_X1_monthOn cyI cyJ cyO h_o h_told a_o_known a_told_settings a_told_howFar a_told_tones a_told_currents a_told_warmths a_told_depths a_told_fars a_told_pieceCells a_told_pieceMonths a_told_pieceHighs a_told_pieceAges a_told_pieceNeeds a_told_dragCells a_told_dragEighths told_pieceCount told_dragCount told_settings told_currents) H → va_D A (W_X1_monthOn cyI cyJ cyO h_o h_told a_o_known a_told_settings a_told_howFar a_told_tones a_told_currents a_told_warmths a_told_depths a_told_fars a_told_pieceCells a_told_pieceMonths a_told_pieceHighs a_told_pieceAges a_told_pieceNeeds a_told_dragCells a_told_dragEighths told_pieceCount told_dragCount told_settings told_currents) → va_S A s.heap H locs → ∀ (ls : Array Slot), lv_has ls 7 [(0, .ref h_o), (3, .int v3)] → okP (f_X1_monthOn_B32 v3 y0 told_settings told_currents) post → W p l e (headSpec wsX1_monthOn rm_X1_monthOn).room s m ([.ref h_o, .int x1, .int x2, .int x3] : List Value).toArray below meth c H locs 0 0 Q (F0 m 32 ls [.int y0]) := by
    intro v3 y0 H locs hP hD hS ls hl hw
    unfold f_X1_monthOn_B32 at hw
    refine lv_istore (lv' := [(5, .int y0), (0, .ref h_o), (3, .int v3)]) hx hb dX1_monthOn_32 hl (by decide) rfl (fun ls hl => ?_)
    refine lv_iload_n hx hb dX1_monthOn_34 rfl (lv_at hl 2 rfl) ?_
    refine lv_iconst (v := 1) hx hb dX1_monthOn_35 (by decide) ?_
    refine lv_icmp_ne (tgt := 58) hx hb dX1_monthOn_36 (by decide) (fun c_2 => ?_) (fun c_2 => ?_)
    · replace hw := okF hw c_2
      clear c_2
      refine lv_iconst (v := (-1)) hx hb dX1_monthOn_58 (by decide) ?_
      exact w59 y0 (-1) _ _ hP hD hS _ (lv_sub hl [0] rfl) hw
    · replace hw := okT hw c_2
      clear c_2
      refine lv_iload hx hb dX1_monthOn_39 (lv_at hl 0 rfl) ?_
      refine lv_aload_n hx hb dX1_monthOn_41 rfl (lv_at hl 1 rfl) ?_
      refine va_get (D := (dC, dI)) (ci := 1) (v := .ref h_told) (C := RX1) (T := TX1) (N := 2) hx hb hts hi1 hown hK hP 0 rfl rfl 0 (by decide) hq0 (fun _ h9 => h9) rfl dX1_monthOn_42 ?_
      refine va_get (D := (dC, dI)) (ci := 4) (v := .ref a_told_settings) (C := RX4) (T := TX4) (N := 16) hx hb hts hi4 hown hK hP 1 rfl rfl 0 (by decide) hq2 (fun _ h9 => h9) rfl dX1_monthOn_45 ?_
      refine lv_bipush (v := 7) hx hb dX1_monthOn_48 (by decide) ?_
      refine va_iald (i := 7) hx hb hK hP 2 0 rfl rfl (show ¬ _ by decide) dX1_monthOn_50 ?_
      refine lv_iconst (v := 1) hx hb dX1_monthOn_51 (by decide) ?_
      have hFc := va_free (wc := []) hD hS hA [] rfl
      refine kp_i (va_runSN (As := [.int y0, .int (told_settings 7), .int 1]) (rest := []) ⟨hx, hb, hml, hown, hts⟩ (c_X6_ahead l dC dI cyI cyJ cyO H.size tD tR tL tM y0 (told_settings 7) 1 _ (okb1 hw)) ⟨va_cnB 3 hts (gdN (fun w h => List.mem_cons_of_mem _ h) q_418) rfl rfl rfl hZ.2.2.2.2.2.2.2.2.1 hq4 (by decide +kernel) ⟨Nat.le_of_ble_eq_true rfl, Nat.le_of_ble_eq_true rfl⟩, hq5, trivial⟩ (kpre zX_ok hK va_P0 va_D0 hZ hS hFc) rfl rfl hl.1 rfl (lv_room (Nat.le_of_ble_eq_true rfl)) dX1_monthOn_52 ⟨Nat.le_of_ble_eq_true rfl, Nat.le_of_ble_eq_true rfl⟩) hP hD hS hFc (fun r_3 H locs hw hP hS => ?_)
      try dsimp only at hw
      clear hFc
      refine lv_goto (tgt := 59) hx hb dX1_monthOn_55 (by decide) ?_
      exact w59 y0 r_3 _ _ hP hD hS _ (lv_sub hl [0] rfl) hw
  unfold f_X1_monthOn at hw
  have hP : va_P (dC, dI) vwCl (W_X1_monthOn cyI cyJ cyO h_o h_told a_o_known a_told_settings a_told_howFar a_told_tones a_told_currents a_told_warmths a_told_depths a_told_fars a_told_pieceCells a_told_pieceMonths a_told_pieceHighs a_told_pieceAges a_told_pieceNeeds a_told_dragCells a_told_dragEighths told_pieceCount told_dragCount told_settings told_currents) s.heap := hP
  obtain ⟨H, hH⟩ : ∃ H, H = s.heap := ⟨_, rfl⟩
  obtain ⟨locs, hlo⟩ : ∃ x : List Loc, x = [] := ⟨_, rfl⟩
  have hP : va_P (dC, dI) vwCl (W_X1_monthOn cyI cyJ cyO h_o h_told a_o_known a_told_settings a_told_howFar a_told_tones a_told_currents a_told_warmths a_told_depths a_told_fars a_told_pieceCells a_told_pieceMonths a_told_pieceHighs a_told_pieceAges a_told_pieceNeeds a_told_dragCells a_told_dragEighths told_pieceCount told_dragCount told_settings told_currents) H := by rw [hH]; exact hP
  have hS : va_S A s.heap H locs := by rw [hH, hlo]; exact hS
  refine kH hH hlo ?_
  clear hH hlo
  refine lv_iload_n hx hb dX1_monthOn_0 rfl (lv_at hl 1 rfl) ?_
  refine lv_aload_n hx hb dX1_monthOn_1 rfl (lv_at hl 0 rfl) ?_
  refine va_get (D := (dC, dI)) (ci := 1) (v := .ref h_told) (C := RX1) (T := TX1) (N := 2) hx hb hts hi1 hown hK hP 0 rfl rfl 0 (by decide) hq0 (fun _ h9 => h9) rfl dX1_monthOn_2 ?_
  refine va_get (D := (dC, dI)) (ci := 4) (v := .ref a_told_currents) (C := RX4) (T := TX4) (N := 16) hx hb hts hi4 hown hK hP 1 rfl rfl 3 (by decide) hq6 (fun _ h9 => h9) rfl dX1_monthOn_5 ?_
  refine lv_iload_n hx hb dX1_monthOn_8 rfl (lv_at hl 2 rfl) ?_
  refine lv_iload_n hx hb dX1_monthOn_9 rfl (lv_at hl 1 rfl) ?_
  have hFc := va_free (wc := []) hD hS hA [] rfl
  refine kp_i (va_runS (As := [.int x2, .int x1]) (rest := [.ref a_told_currents, .int x1]) ⟨hx, hb, hml, hown, hts⟩ (c_X1_inSeason l dC dI cyI cyJ cyO H.size x2 x1 _ (okb1 hw)) (va_cwS 2 hts (gdS (fun w h => List.mem_cons_of_mem _ h) q_500 q_501 q_4 q_502) rfl rfl rfl (by decide +kernel) ⟨Nat.le_of_ble_eq_true rfl, Nat.le_of_ble_eq_true rfl⟩) (kpre zN_ok hK va_P0 va_D0 trivial hS hFc) rfl rfl hl.1 rfl (lv_room (Nat.le_of_ble_eq_true rfl)) dX1_monthOn_10 ⟨Nat.le_of_ble_eq_true rfl, Nat.le_of_ble_eq_true rfl⟩) hP hD hS hFc (fun r_4 H locs hw hP hS => ?_)
  try dsimp only at hw
  clear hFc
  obtain ⟨h_5, hw⟩ := okC hw
  refine va_iald (i := r_4) hx hb hK hP 3 0 rfl rfl h_5 dX1_monthOn_13 ?_
  refine lv_iconst (v := 1) hx hb dX1_monthOn_14 (by decide) ?_
  have hFc := va_free (wc := []) hD hS hA [] rfl
  refine kp_i (va_runSN (As := [.int x1, .int (told_currents r_4.toNatClampNeg), .int 1]) (rest := []) ⟨hx, hb, hml, hown, hts⟩ (c_X6_ahead l dC dI cyI cyJ cyO H.size tD tR tL tM x1 (told_currents r_4.toNatClampNeg) 1 _ (okb1 hw)) ⟨va_cnB 3 hts (gdN (fun w h => List.mem_cons_of_mem _ h) q_418) rfl rfl rfl hZ.2.2.2.2.2.2.2.2.1 hq4 (by decide +kernel) ⟨Nat.le_of_ble_eq_true rfl, Nat.le_of_ble_eq_true rfl⟩, hq5, trivial⟩ (kpre zX_ok hK va_P0 va_D0 hZ hS hFc) rfl rfl hl.1 rfl (lv_room (Nat.le_of_ble_eq_true rfl)) dX1_monthOn_15 ⟨Nat.le_of_ble_eq_true rfl, Nat.le_of_ble_eq_true rfl⟩) hP hD hS hFc (fun r_6 H locs hw hP hS => ?_)
  try dsimp only at hw
  clear hFc
  refine lv_istore (lv' := [(4, .int r_6), (0, .ref h_o), (1, .int x1), (2, .int x2), (3, .int x3)]) hx hb dX1_monthOn_18 hl (by decide) rfl (fun ls hl => ?_)
  refine lv_iload hx hb dX1_monthOn_20 (lv_at hl 0 rfl) ?_
  refine lv_iconst (v := (-1)) hx hb dX1_monthOn_22 (by decide) ?_
  refine lv_icmp_ne (tgt := 30) hx hb dX1_monthOn_23 (by decide) (fun c_7 => ?_) (fun c_7 => ?_)
  · replace hw := okF hw c_7
    clear c_7
    refine lv_iload hx hb dX1_monthOn_30 (lv_at hl 0 rfl) ?_
    exact w32 x3 r_6 _ _ hP hD hS _ (lv_sub hl [1, 4] rfl) hw
  · replace hw := okT hw c_7
    clear c_7
    refine lv_iload_n hx hb dX1_monthOn_26 rfl (lv_at hl 2 rfl) ?_
    refine lv_goto (tgt := 32) hx hb dX1_monthOn_27 (by decide) ?_
    exact w32 x3 x1 _ _ hP hD hS _ (lv_sub hl [1, 4] rfl) hw
/-! ===== X1_behind ===== -/
theorem dX1_behind_0 : decode cX1_behind 0 = .ok (.iload_n 1, 1) := by decide +kernel
theorem dX1_behind_1 : decode cX1_behind 1 = .ok (.istore 4, 2) := by decide +kernel
theorem dX1_behind_3 : decode cX1_behind 3 = .ok (.iconst 0, 1) := by decide +kernel
theorem dX1_behind_4 : decode cX1_behind 4 = .ok (.istore 5, 2) := by decide +kernel
theorem dX1_behind_6 : decode cX1_behind 6 = .ok (.iload 5, 2) := by decide +kernel
theorem dX1_behind_8 : decode cX1_behind 8 = .ok (.iload_n 2, 1) := by decide +kernel
theorem dX1_behind_9 : decode cX1_behind 9 = .ok (.if_icmp .ge 20, 3) := by decide +kernel
theorem dX1_behind_12 : decode cX1_behind 12 = .ok (.aload_n 0, 1) := by decide +kernel
theorem dX1_behind_13 : decode cX1_behind 13 = .ok (.iload 4, 2) := by decide +kernel
theorem dX1_behind_15 : decode cX1_behind 15 = .ok (.iload 5, 2) := by decide +kernel
theorem dX1_behind_17 : decode cX1_behind 17 = .ok (.iload_n 3, 1) := by decide +kernel
theorem dX1_behind_18 : decode cX1_behind 18 = .ok (.invokevirtual 22, 3) := by decide +kernel
theorem dX1_behind_21 : decode cX1_behind 21 = .ok (.istore 4, 2) := by decide +kernel
theorem dX1_behind_23 : decode cX1_behind 23 = .ok (.iinc 5 1, 3) := by decide +kernel
theorem dX1_behind_26 : decode cX1_behind 26 = .ok (.goto (-20), 3) := by decide +kernel
theorem dX1_behind_29 : decode cX1_behind 29 = .ok (.iload 4, 2) := by decide +kernel
theorem dX1_behind_31 : decode cX1_behind 31 = .ok (.ireturn, 1) := by decide +kernel
abbrev W_X1_behind (cyI cyJ cyO : ClassId) (h_o h_told a_o_known a_told_settings a_told_howFar a_told_tones a_told_currents a_told_warmths a_told_depths a_told_fars a_told_pieceCells a_told_pieceMonths a_told_pieceHighs a_told_pieceAges a_told_pieceNeeds a_told_dragCells a_told_dragEighths : Nat) (told_pieceCount : Int32) (told_dragCount : Int32) (told_settings : Nat → Int32) (told_currents : Nat → Int32) : va_W := [(h_o, .inr (1, [.ref h_told, .ref a_o_known])), (h_told, .inr (4, [.ref a_told_settings, .ref a_told_howFar, .ref a_told_tones, .ref a_told_currents, .ref a_told_warmths, .ref a_told_depths, .ref a_told_fars, .ref a_told_pieceCells, .ref a_told_pieceMonths, .ref a_told_pieceHighs, .ref a_told_pieceAges, .ref a_told_pieceNeeds, .ref a_told_dragCells, .ref a_told_dragEighths, .int told_pieceCount, .int told_dragCount])), (a_told_settings, .inl (cyI, 8, .inl told_settings)), (a_told_currents, .inl (cyI, 200, .inl told_currents))]
def f_X1_behind_L6b (k6 : Int32 → Int32 → Int32 → Int32 → (Nat → Int32) → (Nat → Int32) → Option (Int32)) (v2 : Int32) (v3 : Int32) (v4 : Int32) (v5 : Int32) (told_settings : Nat → Int32) (told_currents : Nat → Int32) : Option (Int32) :=
  if v2 ≤ v5 then
    some v4
  else
    bd1 (f_X1_monthOn v4 v5 v3 told_settings told_currents) fun r_1 =>
    nm (v5 + 1) fun x_2 =>
    k6 v2 v3 r_1 x_2 told_settings told_currents
def f_X1_behind_L6 : Nat → Int32 → Int32 → Int32 → Int32 → (Nat → Int32) → (Nat → Int32) → Option (Int32)
  | 0 => fun _ _ _ _ _ _ => none
  | n + 1 => f_X1_behind_L6b (f_X1_behind_L6 n)
def f_X1_behind (x1 : Int32) (x2 : Int32) (x3 : Int32) (told_settings : Nat → Int32) (told_currents : Nat → Int32) : Option (Int32) :=
  f_X1_behind_L6 FU x2 x3 x1 0 told_settings told_currents
abbrev rm_X1_behind : Room := { frames := 2, cells := 0, slots := 0, locals := 51 }
set_option maxRecDepth 100000 in
set_option maxHeartbeats 4000000 in
theorem c_X1_behind (l : Launch) (dC : Nat → ClassId) (dI : Nat → Nat → Nat) (cyI cyJ cyO : ClassId) (sz : Nat) (tD tR tL tM : Nat) (h_o h_told a_o_known a_told_settings a_told_howFar a_told_tones a_told_currents a_told_warmths a_told_depths a_told_fars a_told_pieceCells a_told_pieceMonths a_told_pieceHighs a_told_pieceAges a_told_pieceNeeds a_told_dragCells a_told_dragEighths : Nat) (told_pieceCount : Int32) (told_dragCount : Int32) (told_settings : Nat → Int32) (told_currents : Nat → Int32) (x1 : Int32) (x2 : Int32) (x3 : Int32) (post : Int32 → Prop) (hf : okP (f_X1_behind x1 x2 x3 told_settings told_currents) post) : Ci l (dC, dI) (tyL cyI cyJ cyO) yX1_behind wsX1_behind rm_X1_behind [.ref h_o, .int x1, .int x2, .int x3] sz (W_X1_behind cyI cyJ cyO h_o h_told a_o_known a_told_settings a_told_howFar a_told_tones a_told_currents a_told_warmths a_told_depths a_told_fars a_told_pieceCells a_told_pieceMonths a_told_pieceHighs a_told_pieceAges a_told_pieceNeeds a_told_dragCells a_told_dragEighths told_pieceCount told_dragCount told_settings told_currents) (zX tD tR tL tM) (fun r (_ : Unit) => post r) (fun _ => (W_X1_behind cyI cyJ cyO h_o h_told a_o_known a_told_settings a_told_howFar a_told_tones a_told_currents a_told_warmths a_told_depths a_told_fars a_told_pieceCells a_told_pieceMonths a_told_pieceHighs a_told_pieceAges a_told_pieceNeeds a_told_dragCells a_told_dragEighths told_pieceCount told_dragCount told_settings told_currents)) := by
  refine Met.ofW (cc := cX1_behind) (maxL := 6) (ret := (some .int)) (by decide) rfl ?_
  intro p e s m args below meth c s₁ B hml hv
  obtain ⟨rfl, hsz, hP, hK, hD0, hZ⟩ := hv
  have hx := B.exec
  have hb := B.bytes
  have hr := B.returns
  have hts := atoms_spec (ws := wsX1_behind) B.pre
  have hown : s.vm.findClass RX1 = some m.cls := findClass_of_methodNamed B.named
  have hlocks := B.notSynchronized
  subst hsz
  have hD := hD0.self (sz := s.heap.size)
  generalize hAe : va_A (W_X1_behind cyI cyJ cyO h_o h_told a_o_known a_told_settings a_told_howFar a_told_tones a_told_currents a_told_warmths a_told_depths a_told_fars a_told_pieceCells a_told_pieceMonths a_told_pieceHighs a_told_pieceAges a_told_pieceNeeds a_told_dragCells a_told_dragEighths told_pieceCount told_dragCount told_settings told_currents) s.heap.size = A at hD hZ ⊢
  have hA : ∀ q : Nat, s.heap.size ≤ q → A q := fun q h => by rw [← hAe]; exact Or.inr h
  clear hAe hD0
  have hS : va_S A s.heap s.heap [] := va_S.rf
  have hl := lv_entry ([.ref h_o, .int x1, .int x2, .int x3]) (n := 6) (Nat.le_of_ble_eq_true rfl)
  rw [lg_entry_eq]
  generalize (lg_sl ([.ref h_o, .int x1, .int x2, .int x3]) ++ List.replicate (6 - (lg_sl ([.ref h_o, .int x1, .int x2, .int x3])).length) Slot.unset).toArray = ls at hl ⊢
  have hl : lv_has ls 6 [(0, .ref h_o), (1, .int x1), (2, .int x2), (3, .int x3)] := hl
  refine kW (fun Q hQ => ?_)
  have hw := hf
  have w6 : ∀ (n : Nat), ∀ (v2 : Int32) (v3 : Int32) (v4 : Int32) (v5 : Int32) (H : Heap) (locs : List Loc), va_P (dC, dI) vwCl (W_X1_behind cyI cyJ cyO h_o h_told a_o_known a_told_settings a_told_howFar a_told_tones a_told_currents a_told_warmths a_told_depths a_told_fars a_told_pieceCells a_told_pieceMonths a_told_pieceHighs a_told_pieceAges a_told_pieceNeeds a_told_dragCells a_told_dragEighths told_pieceCount told_dragCount told_settings told_currents) H → va_D A (W_X1_behind cyI cyJ cyO h_o h_told a_o_known a_told_settings a_told_howFar a_told_tones a_told_currents a_told_warmths a_told_depths a_told_fars a_told_pieceCells a_told_pieceMonths a_told_pieceHighs a_told_pieceAges a_told_pieceNeeds a_told_dragCells a_told_dragEighths told_pieceCount told_dragCount told_settings told_currents) → va_S A s.heap H locs → ∀ (ls : Array Slot), lv_has ls 6 [(0, .ref h_o), (2, .int v2), (3, .int v3), (4, .int v4), (5, .int v5)] → okP (f_X1_behind_L6 n v2 v3 v4 v5 told_settings told_currents) post → W p l e (headSpec wsX1_behind rm_X1_behind).room s m ([.ref h_o, .int x1, .int x2, .int x3] : List Value).toArray below meth c H locs 0 0 Q (F0 m 6 ls []) := by
    intro n
    induction n with
    | zero =>
      intro v2 v3 v4 v5 H locs hP hD hS ls hl hw
      exact (ok0 hw).elim
    | succ n6 ih6 =>
      intro v2 v3 v4 v5 H locs hP hD hS ls hl hw
      replace hw : okP (f_X1_behind_L6b (f_X1_behind_L6 n6) v2 v3 v4 v5 told_settings told_currents) post := hw
      unfold f_X1_behind_L6b at hw
      refine lv_iload hx hb dX1_behind_6 (lv_at hl 4 rfl) ?_
      refine lv_iload_n hx hb dX1_behind_8 rfl (lv_at hl 1 rfl) ?_
      refine lv_icmp_ge (tgt := 29) hx hb dX1_behind_9 (by decide) (fun c_1 => ?_) (fun c_1 => ?_)
      · replace hw := okT hw c_1
        clear c_1
        refine lv_iload hx hb dX1_behind_29 (lv_at hl 3 rfl) ?_
        rw [hQ]
        exact W.iret (v := v4) hx hb hr (fun t ht hW => ⟨⟨v4, (), rfl, okS hw, by rw [ht]; exact hP, va_K.moved hW.alike hK, hD⟩, hS.F ht⟩) hS.2.2 dX1_behind_31
      · replace hw := okF hw c_1
        clear c_1
        refine lv_aload_n hx hb dX1_behind_12 rfl (lv_at hl 0 rfl) ?_
        refine lv_iload hx hb dX1_behind_13 (lv_at hl 3 rfl) ?_
        refine lv_iload hx hb dX1_behind_15 (lv_at hl 4 rfl) ?_
        refine lv_iload_n hx hb dX1_behind_17 rfl (lv_at hl 2 rfl) ?_
        have hPc := hP.sub (ws' := (W_X1_monthOn cyI cyJ cyO h_o h_told a_o_known a_told_settings a_told_howFar a_told_tones a_told_currents a_told_warmths a_told_depths a_told_fars a_told_pieceCells a_told_pieceMonths a_told_pieceHighs a_told_pieceAges a_told_pieceNeeds a_told_dragCells a_told_dragEighths told_pieceCount told_dragCount told_settings told_currents)) [0, 1, 2, 3] rfl
        have hDc := hD.sub (ws' := (W_X1_monthOn cyI cyJ cyO h_o h_told a_o_known a_told_settings a_told_howFar a_told_tones a_told_currents a_told_warmths a_told_depths a_told_fars a_told_pieceCells a_told_pieceMonths a_told_pieceHighs a_told_pieceAges a_told_pieceNeeds a_told_dragCells a_told_dragEighths told_pieceCount told_dragCount told_settings told_currents)) [0, 1, 2, 3] (by decide +kernel) rfl
        have hFc := va_free (wc := (W_X1_monthOn cyI cyJ cyO h_o h_told a_o_known a_told_settings a_told_howFar a_told_tones a_told_currents a_told_warmths a_told_depths a_told_fars a_told_pieceCells a_told_pieceMonths a_told_pieceHighs a_told_pieceAges a_told_pieceNeeds a_told_dragCells a_told_dragEighths told_pieceCount told_dragCount told_settings told_currents)) hD hS hA [0, 1, 2, 3] rfl
        refine kc_i (wr := []) (va_runV (As := [.int v4, .int v5, .int v3]) (rest := []) ⟨hx, hb, hml, hown, hts⟩ (c_X1_monthOn l dC dI cyI cyJ cyO H.size tD tR tL tM h_o h_told a_o_known a_told_settings a_told_howFar a_told_tones a_told_currents a_told_warmths a_told_depths a_told_fars a_told_pieceCells a_told_pieceMonths a_told_pieceHighs a_told_pieceAges a_told_pieceNeeds a_told_dragCells a_told_dragEighths told_pieceCount told_dragCount told_settings told_currents v4 v5 v3 _ (okb1 hw)) (cwV 3 hts (gdV (fun w h => List.mem_cons_of_mem _ h) q_496 q_498 qs_17 q_4 q_499) rfl rfl rfl (by decide +kernel) ⟨Nat.le_of_ble_eq_true rfl, Nat.le_of_ble_eq_true rfl⟩) ⟨(kpre zX_ok hK hPc hDc hZ hS hFc).1, va_recv hK hP (ci := 1) (q0 := 0) rfl rfl, (kpre zX_ok hK hPc hDc hZ hS hFc).2⟩ rfl rfl hl.1 rfl (lv_room (Nat.le_of_ble_eq_true rfl)) dX1_behind_18 ⟨Nat.le_of_ble_eq_true rfl, Nat.le_of_ble_eq_true rfl⟩) hP hD hS hFc [0, 1, 2, 3] [] rfl rfl (by decide +kernel) (by decide +kernel) (fun r_2 u H locs hw hP hD hS => ?_)
        try dsimp only at hw
        have hP : va_P (dC, dI) vwCl (W_X1_behind cyI cyJ cyO h_o h_told a_o_known a_told_settings a_told_howFar a_told_tones a_told_currents a_told_warmths a_told_depths a_told_fars a_told_pieceCells a_told_pieceMonths a_told_pieceHighs a_told_pieceAges a_told_pieceNeeds a_told_dragCells a_told_dragEighths told_pieceCount told_dragCount told_settings told_currents) H := hP.sub [0, 1, 2, 3] rfl
        have hD : va_D A (W_X1_behind cyI cyJ cyO h_o h_told a_o_known a_told_settings a_told_howFar a_told_tones a_told_currents a_told_warmths a_told_depths a_told_fars a_told_pieceCells a_told_pieceMonths a_told_pieceHighs a_told_pieceAges a_told_pieceNeeds a_told_dragCells a_told_dragEighths told_pieceCount told_dragCount told_settings told_currents) := hD.sub [0, 1, 2, 3] (by decide +kernel) rfl
        clear hPc hDc hFc
        refine lv_istore (lv' := [(4, .int r_2), (0, .ref h_o), (2, .int v2), (3, .int v3), (5, .int v5)]) hx hb dX1_behind_21 hl (by decide) rfl (fun ls hl => ?_)
        obtain ⟨x_3, ex_3⟩ : ∃ y : Int32, y = v5 + 1 := ⟨_, rfl⟩
        replace hw := okN ex_3 hw
        refine lv_iinc (v := x_3) (lv' := [(5, .int x_3), (4, .int r_2), (0, .ref h_o), (2, .int v2), (3, .int v3)]) hx hb dX1_behind_23 hl (k := 4) rfl (by rw [ex_3]; rfl) (by decide) rfl (fun ls hl => ?_)
        clear ex_3
        refine lv_goto (tgt := 6) hx hb dX1_behind_26 (by decide) ?_
        exact ih6 v2 v3 r_2 x_3 _ _ hP hD hS _ (lv_sub hl [2, 3, 4, 1, 0] rfl) hw
  unfold f_X1_behind at hw
  have hP : va_P (dC, dI) vwCl (W_X1_behind cyI cyJ cyO h_o h_told a_o_known a_told_settings a_told_howFar a_told_tones a_told_currents a_told_warmths a_told_depths a_told_fars a_told_pieceCells a_told_pieceMonths a_told_pieceHighs a_told_pieceAges a_told_pieceNeeds a_told_dragCells a_told_dragEighths told_pieceCount told_dragCount told_settings told_currents) s.heap := hP
  obtain ⟨H, hH⟩ : ∃ H, H = s.heap := ⟨_, rfl⟩
  obtain ⟨locs, hlo⟩ : ∃ x : List Loc, x = [] := ⟨_, rfl⟩
  have hP : va_P (dC, dI) vwCl (W_X1_behind cyI cyJ cyO h_o h_told a_o_known a_told_settings a_told_howFar a_told_tones a_told_currents a_told_warmths a_told_depths a_told_fars a_told_pieceCells a_told_pieceMonths a_told_pieceHighs a_told_pieceAges a_told_pieceNeeds a_told_dragCells a_told_dragEighths told_pieceCount told_dragCount told_settings told_currents) H := by rw [hH]; exact hP
  have hS : va_S A s.heap H locs := by rw [hH, hlo]; exact hS
  refine kH hH hlo ?_
  clear hH hlo
  refine lv_iload_n hx hb dX1_behind_0 rfl (lv_at hl 1 rfl) ?_
  refine lv_istore (lv' := [(4, .int x1), (0, .ref h_o), (1, .int x1), (2, .int x2), (3, .int x3)]) hx hb dX1_behind_1 hl (by decide) rfl (fun ls hl => ?_)
  refine lv_iconst (v := 0) hx hb dX1_behind_3 (by decide) ?_
  refine lv_istore (lv' := [(5, .int 0), (4, .int x1), (0, .ref h_o), (1, .int x1), (2, .int x2), (3, .int x3)]) hx hb dX1_behind_4 hl (by decide) rfl (fun ls hl => ?_)
  exact w6 FU x2 x3 x1 0 _ _ hP hD hS _ (lv_sub hl [2, 4, 5, 1, 0] rfl) hw
/-! ===== X1_reckon ===== -/
theorem dX1_reckon_0 : decode cX1_reckon 0 = .ok (.aload_n 0, 1) := by decide +kernel
theorem dX1_reckon_1 : decode cX1_reckon 1 = .ok (.getfield 15, 3) := by decide +kernel
theorem dX1_reckon_4 : decode cX1_reckon 4 = .ok (.getfield 30, 3) := by decide +kernel
theorem dX1_reckon_7 : decode cX1_reckon 7 = .ok (.iload_n 1, 1) := by decide +kernel
theorem dX1_reckon_8 : decode cX1_reckon 8 = .ok (.iaload, 1) := by decide +kernel
theorem dX1_reckon_9 : decode cX1_reckon 9 = .ok (.istore_n 3, 1) := by decide +kernel
theorem dX1_reckon_10 : decode cX1_reckon 10 = .ok (.iload_n 3, 1) := by decide +kernel
theorem dX1_reckon_11 : decode cX1_reckon 11 = .ok (.aload_n 0, 1) := by decide +kernel
theorem dX1_reckon_12 : decode cX1_reckon 12 = .ok (.getfield 15, 3) := by decide +kernel
theorem dX1_reckon_15 : decode cX1_reckon 15 = .ok (.getfield 35, 3) := by decide +kernel
theorem dX1_reckon_18 : decode cX1_reckon 18 = .ok (.iload_n 1, 1) := by decide +kernel
theorem dX1_reckon_19 : decode cX1_reckon 19 = .ok (.iaload, 1) := by decide +kernel
theorem dX1_reckon_20 : decode cX1_reckon 20 = .ok (.isub, 1) := by decide +kernel
theorem dX1_reckon_21 : decode cX1_reckon 21 = .ok (.istore 4, 2) := by decide +kernel
theorem dX1_reckon_23 : decode cX1_reckon 23 = .ok (.iload_n 2, 1) := by decide +kernel
theorem dX1_reckon_24 : decode cX1_reckon 24 = .ok (.istore 5, 2) := by decide +kernel
theorem dX1_reckon_26 : decode cX1_reckon 26 = .ok (.iconst 0, 1) := by decide +kernel
theorem dX1_reckon_27 : decode cX1_reckon 27 = .ok (.istore 6, 2) := by decide +kernel
theorem dX1_reckon_29 : decode cX1_reckon 29 = .ok (.iload 6, 2) := by decide +kernel
theorem dX1_reckon_31 : decode cX1_reckon 31 = .ok (.iload_n 3, 1) := by decide +kernel
theorem dX1_reckon_32 : decode cX1_reckon 32 = .ok (.if_icmp .ge 64, 3) := by decide +kernel
theorem dX1_reckon_35 : decode cX1_reckon 35 = .ok (.iload 6, 2) := by decide +kernel
theorem dX1_reckon_37 : decode cX1_reckon 37 = .ok (.iload 4, 2) := by decide +kernel
theorem dX1_reckon_39 : decode cX1_reckon 39 = .ok (.if_icmp .lt 32, 3) := by decide +kernel
theorem dX1_reckon_42 : decode cX1_reckon 42 = .ok (.aload_n 0, 1) := by decide +kernel
theorem dX1_reckon_43 : decode cX1_reckon 43 = .ok (.getfield 15, 3) := by decide +kernel
theorem dX1_reckon_46 : decode cX1_reckon 46 = .ok (.getfield 38, 3) := by decide +kernel
theorem dX1_reckon_49 : decode cX1_reckon 49 = .ok (.iload 6, 2) := by decide +kernel
theorem dX1_reckon_51 : decode cX1_reckon 51 = .ok (.iload 5, 2) := by decide +kernel
theorem dX1_reckon_53 : decode cX1_reckon 53 = .ok (.invokestatic 41, 3) := by decide +kernel
theorem dX1_reckon_56 : decode cX1_reckon 56 = .ok (.iaload, 1) := by decide +kernel
theorem dX1_reckon_57 : decode cX1_reckon 57 = .ok (.aload_n 0, 1) := by decide +kernel
theorem dX1_reckon_58 : decode cX1_reckon 58 = .ok (.getfield 15, 3) := by decide +kernel
theorem dX1_reckon_61 : decode cX1_reckon 61 = .ok (.getfield 44, 3) := by decide +kernel
theorem dX1_reckon_64 : decode cX1_reckon 64 = .ok (.iload_n 1, 1) := by decide +kernel
theorem dX1_reckon_65 : decode cX1_reckon 65 = .ok (.iaload, 1) := by decide +kernel
theorem dX1_reckon_66 : decode cX1_reckon 66 = .ok (.if_icmp .ge 5, 3) := by decide +kernel
theorem dX1_reckon_69 : decode cX1_reckon 69 = .ok (.iconst 0, 1) := by decide +kernel
theorem dX1_reckon_70 : decode cX1_reckon 70 = .ok (.ireturn, 1) := by decide +kernel
theorem dX1_reckon_71 : decode cX1_reckon 71 = .ok (.aload_n 0, 1) := by decide +kernel
theorem dX1_reckon_72 : decode cX1_reckon 72 = .ok (.iload 5, 2) := by decide +kernel
theorem dX1_reckon_74 : decode cX1_reckon 74 = .ok (.iload 6, 2) := by decide +kernel
theorem dX1_reckon_76 : decode cX1_reckon 76 = .ok (.aload_n 0, 1) := by decide +kernel
theorem dX1_reckon_77 : decode cX1_reckon 77 = .ok (.getfield 15, 3) := by decide +kernel
theorem dX1_reckon_80 : decode cX1_reckon 80 = .ok (.getfield 47, 3) := by decide +kernel
theorem dX1_reckon_83 : decode cX1_reckon 83 = .ok (.iload_n 1, 1) := by decide +kernel
theorem dX1_reckon_84 : decode cX1_reckon 84 = .ok (.iaload, 1) := by decide +kernel
theorem dX1_reckon_85 : decode cX1_reckon 85 = .ok (.invokevirtual 22, 3) := by decide +kernel
theorem dX1_reckon_88 : decode cX1_reckon 88 = .ok (.istore 5, 2) := by decide +kernel
theorem dX1_reckon_90 : decode cX1_reckon 90 = .ok (.iinc 6 1, 3) := by decide +kernel
theorem dX1_reckon_93 : decode cX1_reckon 93 = .ok (.goto (-64), 3) := by decide +kernel
theorem dX1_reckon_96 : decode cX1_reckon 96 = .ok (.aload_n 0, 1) := by decide +kernel
theorem dX1_reckon_97 : decode cX1_reckon 97 = .ok (.getfield 15, 3) := by decide +kernel
theorem dX1_reckon_100 : decode cX1_reckon 100 = .ok (.getfield 50, 3) := by decide +kernel
theorem dX1_reckon_103 : decode cX1_reckon 103 = .ok (.iload_n 1, 1) := by decide +kernel
theorem dX1_reckon_104 : decode cX1_reckon 104 = .ok (.iaload, 1) := by decide +kernel
theorem dX1_reckon_105 : decode cX1_reckon 105 = .ok (.istore 6, 2) := by decide +kernel
theorem dX1_reckon_107 : decode cX1_reckon 107 = .ok (.iload 5, 2) := by decide +kernel
theorem dX1_reckon_109 : decode cX1_reckon 109 = .ok (.iload 6, 2) := by decide +kernel
theorem dX1_reckon_111 : decode cX1_reckon 111 = .ok (.if_icmp .ne 7, 3) := by decide +kernel
theorem dX1_reckon_114 : decode cX1_reckon 114 = .ok (.iconst 4, 1) := by decide +kernel
theorem dX1_reckon_115 : decode cX1_reckon 115 = .ok (.goto 18, 3) := by decide +kernel
theorem dX1_reckon_118 : decode cX1_reckon 118 = .ok (.iload 5, 2) := by decide +kernel
theorem dX1_reckon_120 : decode cX1_reckon 120 = .ok (.iload 6, 2) := by decide +kernel
theorem dX1_reckon_122 : decode cX1_reckon 122 = .ok (.invokestatic 53, 3) := by decide +kernel
theorem dX1_reckon_125 : decode cX1_reckon 125 = .ok (.ifCond .eq 7, 3) := by decide +kernel
theorem dX1_reckon_128 : decode cX1_reckon 128 = .ok (.iconst 1, 1) := by decide +kernel
theorem dX1_reckon_129 : decode cX1_reckon 129 = .ok (.goto 4, 3) := by decide +kernel
theorem dX1_reckon_132 : decode cX1_reckon 132 = .ok (.iconst 0, 1) := by decide +kernel
theorem dX1_reckon_133 : decode cX1_reckon 133 = .ok (.ireturn, 1) := by decide +kernel
abbrev W_X1_reckon (cyI cyJ cyO : ClassId) (h_o h_told a_o_known a_told_settings a_told_howFar a_told_tones a_told_currents a_told_warmths a_told_depths a_told_fars a_told_pieceCells a_told_pieceMonths a_told_pieceHighs a_told_pieceAges a_told_pieceNeeds a_told_dragCells a_told_dragEighths : Nat) (told_pieceCount : Int32) (told_dragCount : Int32) (told_settings : Nat → Int32) (told_currents : Nat → Int32) (told_warmths : Nat → Int32) (told_pieceCells : Nat → Int32) (told_pieceMonths : Nat → Int32) (told_pieceHighs : Nat → Int32) (told_pieceAges : Nat → Int32) (told_pieceNeeds : Nat → Int32) : va_W := [(h_o, .inr (1, [.ref h_told, .ref a_o_known])), (h_told, .inr (4, [.ref a_told_settings, .ref a_told_howFar, .ref a_told_tones, .ref a_told_currents, .ref a_told_warmths, .ref a_told_depths, .ref a_told_fars, .ref a_told_pieceCells, .ref a_told_pieceMonths, .ref a_told_pieceHighs, .ref a_told_pieceAges, .ref a_told_pieceNeeds, .ref a_told_dragCells, .ref a_told_dragEighths, .int told_pieceCount, .int told_dragCount])), (a_told_settings, .inl (cyI, 8, .inl told_settings)), (a_told_currents, .inl (cyI, 200, .inl told_currents)), (a_told_warmths, .inl (cyI, 200, .inl told_warmths)), (a_told_pieceCells, .inl (cyI, 4, .inl told_pieceCells)), (a_told_pieceMonths, .inl (cyI, 4, .inl told_pieceMonths)), (a_told_pieceHighs, .inl (cyI, 4, .inl told_pieceHighs)), (a_told_pieceAges, .inl (cyI, 4, .inl told_pieceAges)), (a_told_pieceNeeds, .inl (cyI, 4, .inl told_pieceNeeds))]
def f_X1_reckon_B71 (k29 : Int32 → Int32 → Int32 → Int32 → Int32 → (Nat → Int32) → (Nat → Int32) → (Nat → Int32) → (Nat → Int32) → (Nat → Int32) → (Nat → Int32) → (Nat → Int32) → (Nat → Int32) → Option (Int32)) (v1 : Int32) (v3 : Int32) (v4 : Int32) (v5 : Int32) (v6 : Int32) (told_settings : Nat → Int32) (told_currents : Nat → Int32) (told_warmths : Nat → Int32) (told_pieceCells : Nat → Int32) (told_pieceMonths : Nat → Int32) (told_pieceHighs : Nat → Int32) (told_pieceAges : Nat → Int32) (told_pieceNeeds : Nat → Int32) : Option (Int32) :=
  chk (¬ (v1 < 0 ∨ 4 ≤ v1.toNatClampNeg)) <|
  bd1 (f_X1_monthOn v5 v6 (told_pieceHighs v1.toNatClampNeg) told_settings told_currents) fun r_1 =>
  nm (v6 + 1) fun x_2 =>
  k29 v1 v3 v4 r_1 x_2 told_settings told_currents told_warmths told_pieceCells told_pieceMonths told_pieceHighs told_pieceAges told_pieceNeeds
def f_X1_reckon_L29b (k29 : Int32 → Int32 → Int32 → Int32 → Int32 → (Nat → Int32) → (Nat → Int32) → (Nat → Int32) → (Nat → Int32) → (Nat → Int32) → (Nat → Int32) → (Nat → Int32) → (Nat → Int32) → Option (Int32)) (v1 : Int32) (v3 : Int32) (v4 : Int32) (v5 : Int32) (v6 : Int32) (told_settings : Nat → Int32) (told_currents : Nat → Int32) (told_warmths : Nat → Int32) (told_pieceCells : Nat → Int32) (told_pieceMonths : Nat → Int32) (told_pieceHighs : Nat → Int32) (told_pieceAges : Nat → Int32) (told_pieceNeeds : Nat → Int32) : Option (Int32) :=
  if v3 ≤ v6 then
    chk (¬ (v1 < 0 ∨ 4 ≤ v1.toNatClampNeg)) <|
    nm (told_pieceCells v1.toNatClampNeg) fun x_3 =>
    if v5 = x_3 then
      some 4
    else
      bd1 (f_X1_isBeside v5 x_3) fun r_4 =>
      if r_4 = 0 then
        some 0
      else
        some 1
  else
    if v6 < v4 then
      f_X1_reckon_B71 k29 v1 v3 v4 v5 v6 told_settings told_currents told_warmths told_pieceCells told_pieceMonths told_pieceHighs told_pieceAges told_pieceNeeds
    else
      bd1 (f_X1_inSeason v6 v5) fun r_5 =>
      chk (¬ (r_5 < 0 ∨ 200 ≤ r_5.toNatClampNeg)) <|
      chk (¬ (v1 < 0 ∨ 4 ≤ v1.toNatClampNeg)) <|
      if (told_pieceNeeds v1.toNatClampNeg) ≤ (told_warmths r_5.toNatClampNeg) then
        f_X1_reckon_B71 k29 v1 v3 v4 v5 v6 told_settings told_currents told_warmths told_pieceCells told_pieceMonths told_pieceHighs told_pieceAges told_pieceNeeds
      else
        some 0
def f_X1_reckon_L29 : Nat → Int32 → Int32 → Int32 → Int32 → Int32 → (Nat → Int32) → (Nat → Int32) → (Nat → Int32) → (Nat → Int32) → (Nat → Int32) → (Nat → Int32) → (Nat → Int32) → (Nat → Int32) → Option (Int32)
  | 0 => fun _ _ _ _ _ _ _ _ _ _ _ _ _ => none
  | n + 1 => f_X1_reckon_L29b (f_X1_reckon_L29 n)
def f_X1_reckon (x1 : Int32) (x2 : Int32) (told_settings : Nat → Int32) (told_currents : Nat → Int32) (told_warmths : Nat → Int32) (told_pieceCells : Nat → Int32) (told_pieceMonths : Nat → Int32) (told_pieceHighs : Nat → Int32) (told_pieceAges : Nat → Int32) (told_pieceNeeds : Nat → Int32) : Option (Int32) :=
  chk (¬ (x1 < 0 ∨ 4 ≤ x1.toNatClampNeg)) <|
  nm (told_pieceMonths x1.toNatClampNeg) fun x_6 =>
  chk (¬ (x1 < 0 ∨ 4 ≤ x1.toNatClampNeg)) <|
  nm (x_6 - (told_pieceAges x1.toNatClampNeg)) fun x_7 =>
  f_X1_reckon_L29 FU x1 x_6 x_7 x2 0 told_settings told_currents told_warmths told_pieceCells told_pieceMonths told_pieceHighs told_pieceAges told_pieceNeeds
abbrev rm_X1_reckon : Room := { frames := 2, cells := 0, slots := 0, locals := 51 }
set_option maxRecDepth 100000 in
set_option maxHeartbeats 4000000 in
theorem c_X1_reckon (l : Launch) (dC : Nat → ClassId) (dI : Nat → Nat → Nat) (cyI cyJ cyO : ClassId) (sz : Nat) (tD tR tL tM : Nat) (h_o h_told a_o_known a_told_settings a_told_howFar a_told_tones a_told_currents a_told_warmths a_told_depths a_told_fars a_told_pieceCells a_told_pieceMonths a_told_pieceHighs a_told_pieceAges a_told_pieceNeeds a_told_dragCells a_told_dragEighths : Nat) (told_pieceCount : Int32) (told_dragCount : Int32) (told_settings : Nat → Int32) (told_currents : Nat → Int32) (told_warmths : Nat → Int32) (told_pieceCells : Nat → Int32) (told_pieceMonths : Nat → Int32) (told_pieceHighs : Nat → Int32) (told_pieceAges : Nat → Int32) (told_pieceNeeds : Nat → Int32) (x1 : Int32) (x2 : Int32) (post : Int32 → Prop) (hf : okP (f_X1_reckon x1 x2 told_settings told_currents told_warmths told_pieceCells told_pieceMonths told_pieceHighs told_pieceAges told_pieceNeeds) post) : Ci l (dC, dI) (tyL cyI cyJ cyO) yX1_reckon wsX1_reckon rm_X1_reckon [.ref h_o, .int x1, .int x2] sz (W_X1_reckon cyI cyJ cyO h_o h_told a_o_known a_told_settings a_told_howFar a_told_tones a_told_currents a_told_warmths a_told_depths a_told_fars a_told_pieceCells a_told_pieceMonths a_told_pieceHighs a_told_pieceAges a_told_pieceNeeds a_told_dragCells a_told_dragEighths told_pieceCount told_dragCount told_settings told_currents told_warmths told_pieceCells told_pieceMonths told_pieceHighs told_pieceAges told_pieceNeeds) (zX tD tR tL tM) (fun r (_ : Unit) => post r) (fun _ => (W_X1_reckon cyI cyJ cyO h_o h_told a_o_known a_told_settings a_told_howFar a_told_tones a_told_currents a_told_warmths a_told_depths a_told_fars a_told_pieceCells a_told_pieceMonths a_told_pieceHighs a_told_pieceAges a_told_pieceNeeds a_told_dragCells a_told_dragEighths told_pieceCount told_dragCount told_settings told_currents told_warmths told_pieceCells told_pieceMonths told_pieceHighs told_pieceAges told_pieceNeeds)) := by
  refine Met.ofW (cc := cX1_reckon) (maxL := 7) (ret := (some .int)) (by decide) rfl ?_
  intro p e s m args below meth c s₁ B hml hv
  obtain ⟨rfl, hsz, hP, hK, hD0, hZ⟩ := hv
  have hx := B.exec
  have hb := B.bytes
  have hr := B.returns
  have hts := atoms_spec (ws := wsX1_reckon) B.pre
  have hown : s.vm.findClass RX1 = some m.cls := findClass_of_methodNamed B.named
  have hlocks := B.notSynchronized
  subst hsz
  have hD := hD0.self (sz := s.heap.size)
  generalize hAe : va_A (W_X1_reckon cyI cyJ cyO h_o h_told a_o_known a_told_settings a_told_howFar a_told_tones a_told_currents a_told_warmths a_told_depths a_told_fars a_told_pieceCells a_told_pieceMonths a_told_pieceHighs a_told_pieceAges a_told_pieceNeeds a_told_dragCells a_told_dragEighths told_pieceCount told_dragCount told_settings told_currents told_warmths told_pieceCells told_pieceMonths told_pieceHighs told_pieceAges told_pieceNeeds) s.heap.size = A at hD hZ ⊢
  have hA : ∀ q : Nat, s.heap.size ≤ q → A q := fun q h => by rw [← hAe]; exact Or.inr h
  clear hAe hD0
  have hS : va_S A s.heap s.heap [] := va_S.rf
  have hl := lv_entry ([.ref h_o, .int x1, .int x2]) (n := 7) (Nat.le_of_ble_eq_true rfl)
  rw [lg_entry_eq]
  generalize (lg_sl ([.ref h_o, .int x1, .int x2]) ++ List.replicate (7 - (lg_sl ([.ref h_o, .int x1, .int x2])).length) Slot.unset).toArray = ls at hl ⊢
  have hl : lv_has ls 7 [(0, .ref h_o), (1, .int x1), (2, .int x2)] := hl
  refine kW (fun Q hQ => ?_)
  have hq0 := hts _ (List.mem_cons_of_mem _ q_197)
  have hi1 : ∀ w ∈ u_ws RX1 TX1 2, w ∈ wsX1_reckon := fun w h => List.mem_cons_of_mem _ (inX1 w h)
  have hq2 := hts _ (List.mem_cons_of_mem _ q_60)
  have hi4 : ∀ w ∈ u_ws RX4 TX4 16, w ∈ wsX1_reckon := fun w h => List.mem_cons_of_mem _ (inX4 w h)
  have hq4 := hts _ (List.mem_cons_of_mem _ q_54)
  have hq5 := hts _ (List.mem_cons_of_mem _ q_46)
  have hq6 := hts _ (List.mem_cons_of_mem _ q_66)
  have hq7 := hts _ (List.mem_cons_of_mem _ q_57)
  have hq8 := hts _ (List.mem_cons_of_mem _ q_63)
  have hw := hf
  have w29 : ∀ (n : Nat), ∀ (v1 : Int32) (v3 : Int32) (v4 : Int32) (v5 : Int32) (v6 : Int32) (H : Heap) (locs : List Loc), va_P (dC, dI) vwCl (W_X1_reckon cyI cyJ cyO h_o h_told a_o_known a_told_settings a_told_howFar a_told_tones a_told_currents a_told_warmths a_told_depths a_told_fars a_told_pieceCells a_told_pieceMonths a_told_pieceHighs a_told_pieceAges a_told_pieceNeeds a_told_dragCells a_told_dragEighths told_pieceCount told_dragCount told_settings told_currents told_warmths told_pieceCells told_pieceMonths told_pieceHighs told_pieceAges told_pieceNeeds) H → va_D A (W_X1_reckon cyI cyJ cyO h_o h_told a_o_known a_told_settings a_told_howFar a_told_tones a_told_currents a_told_warmths a_told_depths a_told_fars a_told_pieceCells a_told_pieceMonths a_told_pieceHighs a_told_pieceAges a_told_pieceNeeds a_told_dragCells a_told_dragEighths told_pieceCount told_dragCount told_settings told_currents told_warmths told_pieceCells told_pieceMonths told_pieceHighs told_pieceAges told_pieceNeeds) → va_S A s.heap H locs → ∀ (ls : Array Slot), lv_has ls 7 [(0, .ref h_o), (1, .int v1), (3, .int v3), (4, .int v4), (5, .int v5), (6, .int v6)] → okP (f_X1_reckon_L29 n v1 v3 v4 v5 v6 told_settings told_currents told_warmths told_pieceCells told_pieceMonths told_pieceHighs told_pieceAges told_pieceNeeds) post → W p l e (headSpec wsX1_reckon rm_X1_reckon).room s m ([.ref h_o, .int x1, .int x2] : List Value).toArray below meth c H locs 0 0 Q (F0 m 29 ls []) := by
    intro n
    induction n with
    | zero =>
      intro v1 v3 v4 v5 v6 H locs hP hD hS ls hl hw
      exact (ok0 hw).elim
    | succ n29 ih29 =>
      have w71 : ∀ (v1 : Int32) (v3 : Int32) (v4 : Int32) (v5 : Int32) (v6 : Int32) (H : Heap) (locs : List Loc), va_P (dC, dI) vwCl (W_X1_reckon cyI cyJ cyO h_o h_told a_o_known a_told_settings a_told_howFar a_told_tones a_told_currents a_told_warmths a_told_depths a_told_fars a_told_pieceCells a_told_pieceMonths a_told_pieceHighs a_told_pieceAges a_told_pieceNeeds a_told_dragCells a_told_dragEighths told_pieceCount told_dragCount told_settings told_currents told_warmths told_pieceCells told_pieceMonths told_pieceHighs told_pieceAges told_pieceNeeds) H → va_D A (W_X1_reckon cyI cyJ cyO h_o h_told a_o_known a_told_settings a_told_howFar a_told_tones a_told_currents a_told_warmths a_told_depths a_told_fars a_told_pieceCells a_told_pieceMonths a_told_pieceHighs a_told_pieceAges a_told_pieceNeeds a_told_dragCells a_told_dragEighths told_pieceCount told_dragCount told_settings told_currents told_warmths told_pieceCells told_pieceMonths told_pieceHighs told_pieceAges told_pieceNeeds) → va_S A s.heap H locs → ∀ (ls : Array Slot), lv_has ls 7 [(0, .ref h_o), (1, .int v1), (3, .int v3), (4, .int v4), (5, .int v5), (6, .int v6)] → okP (f_X1_reckon_B71 (f_X1_reckon_L29 n29) v1 v3 v4 v5 v6 told_settings told_currents told_warmths told_pieceCells told_pieceMonths told_pieceHighs told_pieceAges told_pieceNeeds) post → W p l e (headSpec wsX1_reckon rm_X1_reckon).room s m ([.ref h_o, .int x1, .int x2] : List Value).toArray below meth c H locs 0 0 Q (F0 m 71 ls []) := by
        intro v1 v3 v4 v5 v6 H locs hP hD hS ls hl hw
        unfold f_X1_reckon_B71 at hw
        refine lv_aload_n hx hb dX1_reckon_71 rfl (lv_at hl 0 rfl) ?_
        refine lv_iload hx hb dX1_reckon_72 (lv_at hl 4 rfl) ?_
        refine lv_iload hx hb dX1_reckon_74 (lv_at hl 5 rfl) ?_
        refine lv_aload_n hx hb dX1_reckon_76 rfl (lv_at hl 0 rfl) ?_
        refine va_get (D := (dC, dI)) (ci := 1) (v := .ref h_told) (C := RX1) (T := TX1) (N := 2) hx hb hts hi1 hown hK hP 0 rfl rfl 0 (by decide) hq0 (fun _ h9 => h9) rfl dX1_reckon_77 ?_
        refine va_get (D := (dC, dI)) (ci := 4) (v := .ref a_told_pieceHighs) (C := RX4) (T := TX4) (N := 16) hx hb hts hi4 hown hK hP 1 rfl rfl 9 (by decide) hq2 (fun _ h9 => h9) rfl dX1_reckon_80 ?_
        refine lv_iload_n hx hb dX1_reckon_83 rfl (lv_at hl 1 rfl) ?_
        obtain ⟨h_1, hw⟩ := okC hw
        refine va_iald (i := v1) hx hb hK hP 7 0 rfl rfl h_1 dX1_reckon_84 ?_
        have hPc := hP.sub (ws' := (W_X1_monthOn cyI cyJ cyO h_o h_told a_o_known a_told_settings a_told_howFar a_told_tones a_told_currents a_told_warmths a_told_depths a_told_fars a_told_pieceCells a_told_pieceMonths a_told_pieceHighs a_told_pieceAges a_told_pieceNeeds a_told_dragCells a_told_dragEighths told_pieceCount told_dragCount told_settings told_currents)) [0, 1, 2, 3] rfl
        have hDc := hD.sub (ws' := (W_X1_monthOn cyI cyJ cyO h_o h_told a_o_known a_told_settings a_told_howFar a_told_tones a_told_currents a_told_warmths a_told_depths a_told_fars a_told_pieceCells a_told_pieceMonths a_told_pieceHighs a_told_pieceAges a_told_pieceNeeds a_told_dragCells a_told_dragEighths told_pieceCount told_dragCount told_settings told_currents)) [0, 1, 2, 3] (by decide +kernel) rfl
        have hFc := va_free (wc := (W_X1_monthOn cyI cyJ cyO h_o h_told a_o_known a_told_settings a_told_howFar a_told_tones a_told_currents a_told_warmths a_told_depths a_told_fars a_told_pieceCells a_told_pieceMonths a_told_pieceHighs a_told_pieceAges a_told_pieceNeeds a_told_dragCells a_told_dragEighths told_pieceCount told_dragCount told_settings told_currents)) hD hS hA [0, 1, 2, 3] rfl
        refine kc_i (wr := [(a_told_warmths, .inl (cyI, 200, .inl told_warmths)), (a_told_pieceCells, .inl (cyI, 4, .inl told_pieceCells)), (a_told_pieceMonths, .inl (cyI, 4, .inl told_pieceMonths)), (a_told_pieceHighs, .inl (cyI, 4, .inl told_pieceHighs)), (a_told_pieceAges, .inl (cyI, 4, .inl told_pieceAges)), (a_told_pieceNeeds, .inl (cyI, 4, .inl told_pieceNeeds))]) (va_runV (As := [.int v5, .int v6, .int (told_pieceHighs v1.toNatClampNeg)]) (rest := []) ⟨hx, hb, hml, hown, hts⟩ (c_X1_monthOn l dC dI cyI cyJ cyO H.size tD tR tL tM h_o h_told a_o_known a_told_settings a_told_howFar a_told_tones a_told_currents a_told_warmths a_told_depths a_told_fars a_told_pieceCells a_told_pieceMonths a_told_pieceHighs a_told_pieceAges a_told_pieceNeeds a_told_dragCells a_told_dragEighths told_pieceCount told_dragCount told_settings told_currents v5 v6 (told_pieceHighs v1.toNatClampNeg) _ (okb1 hw)) (cwV 3 hts (gdV (fun w h => List.mem_cons_of_mem _ h) q_496 q_498 qs_17 q_4 q_499) rfl rfl rfl (by decide +kernel) ⟨Nat.le_of_ble_eq_true rfl, Nat.le_of_ble_eq_true rfl⟩) ⟨(kpre zX_ok hK hPc hDc hZ hS hFc).1, va_recv hK hP (ci := 1) (q0 := 0) rfl rfl, (kpre zX_ok hK hPc hDc hZ hS hFc).2⟩ rfl rfl hl.1 rfl (lv_room (Nat.le_of_ble_eq_true rfl)) dX1_reckon_85 ⟨Nat.le_of_ble_eq_true rfl, Nat.le_of_ble_eq_true rfl⟩) hP hD hS hFc [0, 1, 2, 3] [4, 5, 6, 7, 8, 9] rfl rfl (by decide +kernel) (by decide +kernel) (fun r_2 u H locs hw hP hD hS => ?_)
        try dsimp only at hw
        have hP : va_P (dC, dI) vwCl (W_X1_reckon cyI cyJ cyO h_o h_told a_o_known a_told_settings a_told_howFar a_told_tones a_told_currents a_told_warmths a_told_depths a_told_fars a_told_pieceCells a_told_pieceMonths a_told_pieceHighs a_told_pieceAges a_told_pieceNeeds a_told_dragCells a_told_dragEighths told_pieceCount told_dragCount told_settings told_currents told_warmths told_pieceCells told_pieceMonths told_pieceHighs told_pieceAges told_pieceNeeds) H := hP.sub [6, 7, 8, 9, 0, 1, 2, 3, 4, 5] rfl
        have hD : va_D A (W_X1_reckon cyI cyJ cyO h_o h_told a_o_known a_told_settings a_told_howFar a_told_tones a_told_currents a_told_warmths a_told_depths a_told_fars a_told_pieceCells a_told_pieceMonths a_told_pieceHighs a_told_pieceAges a_told_pieceNeeds a_told_dragCells a_told_dragEighths told_pieceCount told_dragCount told_settings told_currents told_warmths told_pieceCells told_pieceMonths told_pieceHighs told_pieceAges told_pieceNeeds) := hD.sub [6, 7, 8, 9, 0, 1, 2, 3, 4, 5] (by decide +kernel) rfl
        clear hPc hDc hFc
        refine lv_istore (lv' := [(5, .int r_2), (0, .ref h_o), (1, .int v1), (3, .int v3), (4, .int v4), (6, .int v6)]) hx hb dX1_reckon_88 hl (by decide) rfl (fun ls hl => ?_)
        obtain ⟨x_3, ex_3⟩ : ∃ y : Int32, y = v6 + 1 := ⟨_, rfl⟩
        replace hw := okN ex_3 hw
        refine lv_iinc (v := x_3) (lv' := [(6, .int x_3), (5, .int r_2), (0, .ref h_o), (1, .int v1), (3, .int v3), (4, .int v4)]) hx hb dX1_reckon_90 hl (k := 5) rfl (by rw [ex_3]; rfl) (by decide) rfl (fun ls hl => ?_)
        clear ex_3
        refine lv_goto (tgt := 29) hx hb dX1_reckon_93 (by decide) ?_
        exact ih29 v1 v3 v4 r_2 x_3 _ _ hP hD hS _ (lv_sub hl [2, 3, 4, 5, 1, 0] rfl) hw
      intro v1 v3 v4 v5 v6 H locs hP hD hS ls hl hw
      replace hw : okP (f_X1_reckon_L29b (f_X1_reckon_L29 n29) v1 v3 v4 v5 v6 told_settings told_currents told_warmths told_pieceCells told_pieceMonths told_pieceHighs told_pieceAges told_pieceNeeds) post := hw
      unfold f_X1_reckon_L29b at hw
      refine lv_iload hx hb dX1_reckon_29 (lv_at hl 5 rfl) ?_
      refine lv_iload_n hx hb dX1_reckon_31 rfl (lv_at hl 2 rfl) ?_
      refine lv_icmp_ge (tgt := 96) hx hb dX1_reckon_32 (by decide) (fun c_4 => ?_) (fun c_4 => ?_)
      · replace hw := okT hw c_4
        clear c_4
        refine lv_aload_n hx hb dX1_reckon_96 rfl (lv_at hl 0 rfl) ?_
        refine va_get (D := (dC, dI)) (ci := 1) (v := .ref h_told) (C := RX1) (T := TX1) (N := 2) hx hb hts hi1 hown hK hP 0 rfl rfl 0 (by decide) hq0 (fun _ h9 => h9) rfl dX1_reckon_97 ?_
        refine va_get (D := (dC, dI)) (ci := 4) (v := .ref a_told_pieceCells) (C := RX4) (T := TX4) (N := 16) hx hb hts hi4 hown hK hP 1 rfl rfl 7 (by decide) hq4 (fun _ h9 => h9) rfl dX1_reckon_100 ?_
        refine lv_iload_n hx hb dX1_reckon_103 rfl (lv_at hl 1 rfl) ?_
        obtain ⟨h_5, hw⟩ := okC hw
        refine va_iald (i := v1) hx hb hK hP 5 0 rfl rfl h_5 dX1_reckon_104 ?_
        refine lv_topi (fun x_6 ex_6 => ?_)
        replace hw := okN ex_6 hw
        clear ex_6
        refine lv_istore (lv' := [(6, .int x_6), (0, .ref h_o), (1, .int v1), (3, .int v3), (4, .int v4), (5, .int v5)]) hx hb dX1_reckon_105 hl (by decide) rfl (fun ls hl => ?_)
        refine lv_iload hx hb dX1_reckon_107 (lv_at hl 5 rfl) ?_
        refine lv_iload hx hb dX1_reckon_109 (lv_at hl 0 rfl) ?_
        refine lv_icmp_ne (tgt := 118) hx hb dX1_reckon_111 (by decide) (fun c_7 => ?_) (fun c_7 => ?_)
        · replace hw := okF hw c_7
          clear c_7
          refine lv_iload hx hb dX1_reckon_118 (lv_at hl 5 rfl) ?_
          refine lv_iload hx hb dX1_reckon_120 (lv_at hl 0 rfl) ?_
          have hFc := va_free (wc := []) hD hS hA [] rfl
          refine kp_i (va_runS (As := [.int v5, .int x_6]) (rest := []) ⟨hx, hb, hml, hown, hts⟩ (c_X1_isBeside l dC dI cyI cyJ cyO H.size v5 x_6 _ (okb1 hw)) (va_cwS 2 hts (gdS (fun w h => List.mem_cons_of_mem _ h) q_520 q_521 q_4 q_522) rfl rfl rfl (by decide +kernel) ⟨Nat.le_of_ble_eq_true rfl, Nat.le_of_ble_eq_true rfl⟩) (kpre zN_ok hK va_P0 va_D0 trivial hS hFc) rfl rfl hl.1 rfl (lv_room (Nat.le_of_ble_eq_true rfl)) dX1_reckon_122 ⟨Nat.le_of_ble_eq_true rfl, Nat.le_of_ble_eq_true rfl⟩) hP hD hS hFc (fun r_8 H locs hw hP hS => ?_)
          try dsimp only at hw
          clear hFc
          refine lv_if_eq (tgt := 132) hx hb dX1_reckon_125 (by decide) (fun c_9 => ?_) (fun c_9 => ?_)
          · replace hw := okT hw c_9
            clear c_9
            refine lv_iconst (v := 0) hx hb dX1_reckon_132 (by decide) ?_
            rw [hQ]
            exact W.iret (v := 0) hx hb hr (fun t ht hW => ⟨⟨0, (), rfl, okS hw, by rw [ht]; exact hP, va_K.moved hW.alike hK, hD⟩, hS.F ht⟩) hS.2.2 dX1_reckon_133
          · replace hw := okF hw c_9
            clear c_9
            refine lv_iconst (v := 1) hx hb dX1_reckon_128 (by decide) ?_
            refine lv_goto (tgt := 133) hx hb dX1_reckon_129 (by decide) ?_
            rw [hQ]
            exact W.iret (v := 1) hx hb hr (fun t ht hW => ⟨⟨1, (), rfl, okS hw, by rw [ht]; exact hP, va_K.moved hW.alike hK, hD⟩, hS.F ht⟩) hS.2.2 dX1_reckon_133
        · replace hw := okT hw c_7
          clear c_7
          refine lv_iconst (v := 4) hx hb dX1_reckon_114 (by decide) ?_
          refine lv_goto (tgt := 133) hx hb dX1_reckon_115 (by decide) ?_
          rw [hQ]
          exact W.iret (v := 4) hx hb hr (fun t ht hW => ⟨⟨4, (), rfl, okS hw, by rw [ht]; exact hP, va_K.moved hW.alike hK, hD⟩, hS.F ht⟩) hS.2.2 dX1_reckon_133
      · replace hw := okF hw c_4
        clear c_4
        refine lv_iload hx hb dX1_reckon_35 (lv_at hl 5 rfl) ?_
        refine lv_iload hx hb dX1_reckon_37 (lv_at hl 3 rfl) ?_
        refine lv_icmp_lt (tgt := 71) hx hb dX1_reckon_39 (by decide) (fun c_10 => ?_) (fun c_10 => ?_)
        · replace hw := okT hw c_10
          clear c_10
          exact w71 v1 v3 v4 v5 v6 _ _ hP hD hS _ (lv_sub hl [0, 1, 2, 3, 4, 5] rfl) hw
        · replace hw := okF hw c_10
          clear c_10
          refine lv_aload_n hx hb dX1_reckon_42 rfl (lv_at hl 0 rfl) ?_
          refine va_get (D := (dC, dI)) (ci := 1) (v := .ref h_told) (C := RX1) (T := TX1) (N := 2) hx hb hts hi1 hown hK hP 0 rfl rfl 0 (by decide) hq0 (fun _ h9 => h9) rfl dX1_reckon_43 ?_
          refine va_get (D := (dC, dI)) (ci := 4) (v := .ref a_told_warmths) (C := RX4) (T := TX4) (N := 16) hx hb hts hi4 hown hK hP 1 rfl rfl 4 (by decide) hq5 (fun _ h9 => h9) rfl dX1_reckon_46 ?_
          refine lv_iload hx hb dX1_reckon_49 (lv_at hl 5 rfl) ?_
          refine lv_iload hx hb dX1_reckon_51 (lv_at hl 4 rfl) ?_
          have hFc := va_free (wc := []) hD hS hA [] rfl
          refine kp_i (va_runS (As := [.int v6, .int v5]) (rest := [.ref a_told_warmths]) ⟨hx, hb, hml, hown, hts⟩ (c_X1_inSeason l dC dI cyI cyJ cyO H.size v6 v5 _ (okb1 hw)) (va_cwS 2 hts (gdS (fun w h => List.mem_cons_of_mem _ h) q_500 q_501 q_4 q_502) rfl rfl rfl (by decide +kernel) ⟨Nat.le_of_ble_eq_true rfl, Nat.le_of_ble_eq_true rfl⟩) (kpre zN_ok hK va_P0 va_D0 trivial hS hFc) rfl rfl hl.1 rfl (lv_room (Nat.le_of_ble_eq_true rfl)) dX1_reckon_53 ⟨Nat.le_of_ble_eq_true rfl, Nat.le_of_ble_eq_true rfl⟩) hP hD hS hFc (fun r_11 H locs hw hP hS => ?_)
          try dsimp only at hw
          clear hFc
          obtain ⟨h_12, hw⟩ := okC hw
          refine va_iald (i := r_11) hx hb hK hP 4 0 rfl rfl h_12 dX1_reckon_56 ?_
          refine lv_aload_n hx hb dX1_reckon_57 rfl (lv_at hl 0 rfl) ?_
          refine va_get (D := (dC, dI)) (ci := 1) (v := .ref h_told) (C := RX1) (T := TX1) (N := 2) hx hb hts hi1 hown hK hP 0 rfl rfl 0 (by decide) hq0 (fun _ h9 => h9) rfl dX1_reckon_58 ?_
          refine va_get (D := (dC, dI)) (ci := 4) (v := .ref a_told_pieceNeeds) (C := RX4) (T := TX4) (N := 16) hx hb hts hi4 hown hK hP 1 rfl rfl 11 (by decide) hq6 (fun _ h9 => h9) rfl dX1_reckon_61 ?_
          refine lv_iload_n hx hb dX1_reckon_64 rfl (lv_at hl 1 rfl) ?_
          obtain ⟨h_13, hw⟩ := okC hw
          refine va_iald (i := v1) hx hb hK hP 9 0 rfl rfl h_13 dX1_reckon_65 ?_
          refine lv_icmp_ge (tgt := 71) hx hb dX1_reckon_66 (by decide) (fun c_14 => ?_) (fun c_14 => ?_)
          · replace hw := okT hw c_14
            clear c_14
            exact w71 v1 v3 v4 v5 v6 _ _ hP hD hS _ (lv_sub hl [0, 1, 2, 3, 4, 5] rfl) hw
          · replace hw := okF hw c_14
            clear c_14
            refine lv_iconst (v := 0) hx hb dX1_reckon_69 (by decide) ?_
            rw [hQ]
            exact W.iret (v := 0) hx hb hr (fun t ht hW => ⟨⟨0, (), rfl, okS hw, by rw [ht]; exact hP, va_K.moved hW.alike hK, hD⟩, hS.F ht⟩) hS.2.2 dX1_reckon_70
  unfold f_X1_reckon at hw
  have hP : va_P (dC, dI) vwCl (W_X1_reckon cyI cyJ cyO h_o h_told a_o_known a_told_settings a_told_howFar a_told_tones a_told_currents a_told_warmths a_told_depths a_told_fars a_told_pieceCells a_told_pieceMonths a_told_pieceHighs a_told_pieceAges a_told_pieceNeeds a_told_dragCells a_told_dragEighths told_pieceCount told_dragCount told_settings told_currents told_warmths told_pieceCells told_pieceMonths told_pieceHighs told_pieceAges told_pieceNeeds) s.heap := hP
  obtain ⟨H, hH⟩ : ∃ H, H = s.heap := ⟨_, rfl⟩
  obtain ⟨locs, hlo⟩ : ∃ x : List Loc, x = [] := ⟨_, rfl⟩
  have hP : va_P (dC, dI) vwCl (W_X1_reckon cyI cyJ cyO h_o h_told a_o_known a_told_settings a_told_howFar a_told_tones a_told_currents a_told_warmths a_told_depths a_told_fars a_told_pieceCells a_told_pieceMonths a_told_pieceHighs a_told_pieceAges a_told_pieceNeeds a_told_dragCells a_told_dragEighths told_pieceCount told_dragCount told_settings told_currents told_warmths told_pieceCells told_pieceMonths told_pieceHighs told_pieceAges told_pieceNeeds) H := by rw [hH]; exact hP
  have hS : va_S A s.heap H locs := by rw [hH, hlo]; exact hS
  refine kH hH hlo ?_
  clear hH hlo
  refine lv_aload_n hx hb dX1_reckon_0 rfl (lv_at hl 0 rfl) ?_
  refine va_get (D := (dC, dI)) (ci := 1) (v := .ref h_told) (C := RX1) (T := TX1) (N := 2) hx hb hts hi1 hown hK hP 0 rfl rfl 0 (by decide) hq0 (fun _ h9 => h9) rfl dX1_reckon_1 ?_
  refine va_get (D := (dC, dI)) (ci := 4) (v := .ref a_told_pieceMonths) (C := RX4) (T := TX4) (N := 16) hx hb hts hi4 hown hK hP 1 rfl rfl 8 (by decide) hq7 (fun _ h9 => h9) rfl dX1_reckon_4 ?_
  refine lv_iload_n hx hb dX1_reckon_7 rfl (lv_at hl 1 rfl) ?_
  obtain ⟨h_15, hw⟩ := okC hw
  refine va_iald (i := x1) hx hb hK hP 6 0 rfl rfl h_15 dX1_reckon_8 ?_
  refine lv_topi (fun x_16 ex_16 => ?_)
  replace hw := okN ex_16 hw
  clear ex_16
  refine lv_istore_n (lv' := [(3, .int x_16), (0, .ref h_o), (1, .int x1), (2, .int x2)]) hx hb dX1_reckon_9 rfl hl (by decide) rfl (fun ls hl => ?_)
  refine lv_iload_n hx hb dX1_reckon_10 rfl (lv_at hl 0 rfl) ?_
  refine lv_aload_n hx hb dX1_reckon_11 rfl (lv_at hl 1 rfl) ?_
  refine va_get (D := (dC, dI)) (ci := 1) (v := .ref h_told) (C := RX1) (T := TX1) (N := 2) hx hb hts hi1 hown hK hP 0 rfl rfl 0 (by decide) hq0 (fun _ h9 => h9) rfl dX1_reckon_12 ?_
  refine va_get (D := (dC, dI)) (ci := 4) (v := .ref a_told_pieceAges) (C := RX4) (T := TX4) (N := 16) hx hb hts hi4 hown hK hP 1 rfl rfl 10 (by decide) hq8 (fun _ h9 => h9) rfl dX1_reckon_15 ?_
  refine lv_iload_n hx hb dX1_reckon_18 rfl (lv_at hl 2 rfl) ?_
  obtain ⟨h_17, hw⟩ := okC hw
  refine va_iald (i := x1) hx hb hK hP 8 0 rfl rfl h_17 dX1_reckon_19 ?_
  refine lv_isub hx hb dX1_reckon_20 ?_
  refine lv_topi (fun x_18 ex_18 => ?_)
  replace hw := okN ex_18 hw
  clear ex_18
  refine lv_istore (lv' := [(4, .int x_18), (3, .int x_16), (0, .ref h_o), (1, .int x1), (2, .int x2)]) hx hb dX1_reckon_21 hl (by decide) rfl (fun ls hl => ?_)
  refine lv_iload_n hx hb dX1_reckon_23 rfl (lv_at hl 4 rfl) ?_
  refine lv_istore (lv' := [(5, .int x2), (4, .int x_18), (3, .int x_16), (0, .ref h_o), (1, .int x1), (2, .int x2)]) hx hb dX1_reckon_24 hl (by decide) rfl (fun ls hl => ?_)
  refine lv_iconst (v := 0) hx hb dX1_reckon_26 (by decide) ?_
  refine lv_istore (lv' := [(6, .int 0), (5, .int x2), (4, .int x_18), (3, .int x_16), (0, .ref h_o), (1, .int x1), (2, .int x2)]) hx hb dX1_reckon_27 hl (by decide) rfl (fun ls hl => ?_)
  exact w29 FU x1 x_16 x_18 x2 0 _ _ hP hD hS _ (lv_sub hl [4, 5, 3, 2, 1, 0] rfl) hw
/-! ===== X1_fit ===== -/
theorem dX1_fit_0 : decode cX1_fit 0 = .ok (.bipush 100, 2) := by decide +kernel
theorem dX1_fit_2 : decode cX1_fit 2 = .ok (.iload_n 1, 1) := by decide +kernel
theorem dX1_fit_3 : decode cX1_fit 3 = .ok (.imul, 1) := by decide +kernel
theorem dX1_fit_4 : decode cX1_fit 4 = .ok (.iload_n 2, 1) := by decide +kernel
theorem dX1_fit_5 : decode cX1_fit 5 = .ok (.iadd, 1) := by decide +kernel
theorem dX1_fit_6 : decode cX1_fit 6 = .ok (.istore_n 3, 1) := by decide +kernel
theorem dX1_fit_7 : decode cX1_fit 7 = .ok (.aload_n 0, 1) := by decide +kernel
theorem dX1_fit_8 : decode cX1_fit 8 = .ok (.getfield 9, 3) := by decide +kernel
theorem dX1_fit_11 : decode cX1_fit 11 = .ok (.iload_n 3, 1) := by decide +kernel
theorem dX1_fit_12 : decode cX1_fit 12 = .ok (.iaload, 1) := by decide +kernel
theorem dX1_fit_13 : decode cX1_fit 13 = .ok (.iconst (-1), 1) := by decide +kernel
theorem dX1_fit_14 : decode cX1_fit 14 = .ok (.if_icmp .ne 15, 3) := by decide +kernel
theorem dX1_fit_17 : decode cX1_fit 17 = .ok (.aload_n 0, 1) := by decide +kernel
theorem dX1_fit_18 : decode cX1_fit 18 = .ok (.getfield 9, 3) := by decide +kernel
theorem dX1_fit_21 : decode cX1_fit 21 = .ok (.iload_n 3, 1) := by decide +kernel
theorem dX1_fit_22 : decode cX1_fit 22 = .ok (.aload_n 0, 1) := by decide +kernel
theorem dX1_fit_23 : decode cX1_fit 23 = .ok (.iload_n 1, 1) := by decide +kernel
theorem dX1_fit_24 : decode cX1_fit 24 = .ok (.iload_n 2, 1) := by decide +kernel
theorem dX1_fit_25 : decode cX1_fit 25 = .ok (.invokevirtual 26, 3) := by decide +kernel
theorem dX1_fit_28 : decode cX1_fit 28 = .ok (.iastore, 1) := by decide +kernel
theorem dX1_fit_29 : decode cX1_fit 29 = .ok (.aload_n 0, 1) := by decide +kernel
theorem dX1_fit_30 : decode cX1_fit 30 = .ok (.getfield 9, 3) := by decide +kernel
theorem dX1_fit_33 : decode cX1_fit 33 = .ok (.iload_n 3, 1) := by decide +kernel
theorem dX1_fit_34 : decode cX1_fit 34 = .ok (.iaload, 1) := by decide +kernel
theorem dX1_fit_35 : decode cX1_fit 35 = .ok (.ireturn, 1) := by decide +kernel
abbrev W_X1_fit (cyI cyJ cyO : ClassId) (h_o h_told a_o_known a_told_settings a_told_howFar a_told_tones a_told_currents a_told_warmths a_told_depths a_told_fars a_told_pieceCells a_told_pieceMonths a_told_pieceHighs a_told_pieceAges a_told_pieceNeeds a_told_dragCells a_told_dragEighths : Nat) (o_known : Nat → Int32) (told_pieceCount : Int32) (told_dragCount : Int32) (told_settings : Nat → Int32) (told_currents : Nat → Int32) (told_warmths : Nat → Int32) (told_pieceCells : Nat → Int32) (told_pieceMonths : Nat → Int32) (told_pieceHighs : Nat → Int32) (told_pieceAges : Nat → Int32) (told_pieceNeeds : Nat → Int32) : va_W := [(h_o, .inr (1, [.ref h_told, .ref a_o_known])), (a_o_known, .inl (cyI, 400, .inl o_known)), (h_told, .inr (4, [.ref a_told_settings, .ref a_told_howFar, .ref a_told_tones, .ref a_told_currents, .ref a_told_warmths, .ref a_told_depths, .ref a_told_fars, .ref a_told_pieceCells, .ref a_told_pieceMonths, .ref a_told_pieceHighs, .ref a_told_pieceAges, .ref a_told_pieceNeeds, .ref a_told_dragCells, .ref a_told_dragEighths, .int told_pieceCount, .int told_dragCount])), (a_told_settings, .inl (cyI, 8, .inl told_settings)), (a_told_currents, .inl (cyI, 200, .inl told_currents)), (a_told_warmths, .inl (cyI, 200, .inl told_warmths)), (a_told_pieceCells, .inl (cyI, 4, .inl told_pieceCells)), (a_told_pieceMonths, .inl (cyI, 4, .inl told_pieceMonths)), (a_told_pieceHighs, .inl (cyI, 4, .inl told_pieceHighs)), (a_told_pieceAges, .inl (cyI, 4, .inl told_pieceAges)), (a_told_pieceNeeds, .inl (cyI, 4, .inl told_pieceNeeds))]
def f_X1_fit_B29 (v3 : Int32) (o_known : Nat → Int32) (told_settings : Nat → Int32) (told_currents : Nat → Int32) (told_warmths : Nat → Int32) (told_pieceCells : Nat → Int32) (told_pieceMonths : Nat → Int32) (told_pieceHighs : Nat → Int32) (told_pieceAges : Nat → Int32) (told_pieceNeeds : Nat → Int32) : Option (Int32 × (Nat → Int32)) :=
  chk (¬ (v3 < 0 ∨ 400 ≤ v3.toNatClampNeg)) <|
  some (o_known v3.toNatClampNeg, o_known)
def f_X1_fit (x1 : Int32) (x2 : Int32) (o_known : Nat → Int32) (told_settings : Nat → Int32) (told_currents : Nat → Int32) (told_warmths : Nat → Int32) (told_pieceCells : Nat → Int32) (told_pieceMonths : Nat → Int32) (told_pieceHighs : Nat → Int32) (told_pieceAges : Nat → Int32) (told_pieceNeeds : Nat → Int32) : Option (Int32 × (Nat → Int32)) :=
  nm ((100 * x1) + x2) fun x_1 =>
  chk (¬ (x_1 < 0 ∨ 400 ≤ x_1.toNatClampNeg)) <|
  if (o_known x_1.toNatClampNeg) = (-1) then
    bd1 (f_X1_reckon x1 x2 told_settings told_currents told_warmths told_pieceCells told_pieceMonths told_pieceHighs told_pieceAges told_pieceNeeds) fun r_2 =>
    chk (¬ (x_1 < 0 ∨ 400 ≤ x_1.toNatClampNeg)) <|
    f_X1_fit_B29 x_1 (upd o_known x_1.toNatClampNeg r_2) told_settings told_currents told_warmths told_pieceCells told_pieceMonths told_pieceHighs told_pieceAges told_pieceNeeds
  else
    f_X1_fit_B29 x_1 o_known told_settings told_currents told_warmths told_pieceCells told_pieceMonths told_pieceHighs told_pieceAges told_pieceNeeds
abbrev rm_X1_fit : Room := { frames := 3, cells := 0, slots := 0, locals := 77 }
set_option maxRecDepth 100000 in
set_option maxHeartbeats 4000000 in
theorem c_X1_fit (l : Launch) (dC : Nat → ClassId) (dI : Nat → Nat → Nat) (cyI cyJ cyO : ClassId) (sz : Nat) (tD tR tL tM : Nat) (h_o h_told a_o_known a_told_settings a_told_howFar a_told_tones a_told_currents a_told_warmths a_told_depths a_told_fars a_told_pieceCells a_told_pieceMonths a_told_pieceHighs a_told_pieceAges a_told_pieceNeeds a_told_dragCells a_told_dragEighths : Nat) (o_known : Nat → Int32) (told_pieceCount : Int32) (told_dragCount : Int32) (told_settings : Nat → Int32) (told_currents : Nat → Int32) (told_warmths : Nat → Int32) (told_pieceCells : Nat → Int32) (told_pieceMonths : Nat → Int32) (told_pieceHighs : Nat → Int32) (told_pieceAges : Nat → Int32) (told_pieceNeeds : Nat → Int32) (x1 : Int32) (x2 : Int32) (post : (Int32 × (Nat → Int32)) → Prop) (hf : okP (f_X1_fit x1 x2 o_known told_settings told_currents told_warmths told_pieceCells told_pieceMonths told_pieceHighs told_pieceAges told_pieceNeeds) post) : Ci l (dC, dI) (tyL cyI cyJ cyO) yX1_fit wsX1_fit rm_X1_fit [.ref h_o, .int x1, .int x2] sz (W_X1_fit cyI cyJ cyO h_o h_told a_o_known a_told_settings a_told_howFar a_told_tones a_told_currents a_told_warmths a_told_depths a_told_fars a_told_pieceCells a_told_pieceMonths a_told_pieceHighs a_told_pieceAges a_told_pieceNeeds a_told_dragCells a_told_dragEighths o_known told_pieceCount told_dragCount told_settings told_currents told_warmths told_pieceCells told_pieceMonths told_pieceHighs told_pieceAges told_pieceNeeds) (zX tD tR tL tM) (fun r u => post (r, u)) (fun u => (W_X1_fit cyI cyJ cyO h_o h_told a_o_known a_told_settings a_told_howFar a_told_tones a_told_currents a_told_warmths a_told_depths a_told_fars a_told_pieceCells a_told_pieceMonths a_told_pieceHighs a_told_pieceAges a_told_pieceNeeds a_told_dragCells a_told_dragEighths u told_pieceCount told_dragCount told_settings told_currents told_warmths told_pieceCells told_pieceMonths told_pieceHighs told_pieceAges told_pieceNeeds)) := by
  refine Met.ofW (cc := cX1_fit) (maxL := 4) (ret := (some .int)) (by decide) rfl ?_
  intro p e s m args below meth c s₁ B hml hv
  obtain ⟨rfl, hsz, hP, hK, hD0, hZ⟩ := hv
  have hx := B.exec
  have hb := B.bytes
  have hr := B.returns
  have hts := atoms_spec (ws := wsX1_fit) B.pre
  have hown : s.vm.findClass RX1 = some m.cls := findClass_of_methodNamed B.named
  have hlocks := B.notSynchronized
  subst hsz
  have hD := hD0.self (sz := s.heap.size)
  generalize hAe : va_A (W_X1_fit cyI cyJ cyO h_o h_told a_o_known a_told_settings a_told_howFar a_told_tones a_told_currents a_told_warmths a_told_depths a_told_fars a_told_pieceCells a_told_pieceMonths a_told_pieceHighs a_told_pieceAges a_told_pieceNeeds a_told_dragCells a_told_dragEighths o_known told_pieceCount told_dragCount told_settings told_currents told_warmths told_pieceCells told_pieceMonths told_pieceHighs told_pieceAges told_pieceNeeds) s.heap.size = A at hD hZ ⊢
  have hA : ∀ q : Nat, s.heap.size ≤ q → A q := fun q h => by rw [← hAe]; exact Or.inr h
  clear hAe hD0
  have hS : va_S A s.heap s.heap [] := va_S.rf
  have hl := lv_entry ([.ref h_o, .int x1, .int x2]) (n := 4) (Nat.le_of_ble_eq_true rfl)
  rw [lg_entry_eq]
  generalize (lg_sl ([.ref h_o, .int x1, .int x2]) ++ List.replicate (4 - (lg_sl ([.ref h_o, .int x1, .int x2])).length) Slot.unset).toArray = ls at hl ⊢
  have hl : lv_has ls 4 [(0, .ref h_o), (1, .int x1), (2, .int x2)] := hl
  refine kW (fun Q hQ => ?_)
  have hq0 := hts _ (List.mem_cons_of_mem _ q_198)
  have hi1 : ∀ w ∈ u_ws RX1 TX1 2, w ∈ wsX1_fit := fun w h => List.mem_cons_of_mem _ (inX1 w h)
  have hw := hf
  have w29 : ∀ (v3 : Int32) (o_known : Nat → Int32) (H : Heap) (locs : List Loc), va_P (dC, dI) vwCl (W_X1_fit cyI cyJ cyO h_o h_told a_o_known a_told_settings a_told_howFar a_told_tones a_told_currents a_told_warmths a_told_depths a_told_fars a_told_pieceCells a_told_pieceMonths a_told_pieceHighs a_told_pieceAges a_told_pieceNeeds a_told_dragCells a_told_dragEighths o_known told_pieceCount told_dragCount told_settings told_currents told_warmths told_pieceCells told_pieceMonths told_pieceHighs told_pieceAges told_pieceNeeds) H → va_D A (W_X1_fit cyI cyJ cyO h_o h_told a_o_known a_told_settings a_told_howFar a_told_tones a_told_currents a_told_warmths a_told_depths a_told_fars a_told_pieceCells a_told_pieceMonths a_told_pieceHighs a_told_pieceAges a_told_pieceNeeds a_told_dragCells a_told_dragEighths o_known told_pieceCount told_dragCount told_settings told_currents told_warmths told_pieceCells told_pieceMonths told_pieceHighs told_pieceAges told_pieceNeeds) → va_S A s.heap H locs → ∀ (ls : Array Slot), lv_has ls 4 [(0, .ref h_o), (3, .int v3)] → okP (f_X1_fit_B29 v3 o_known told_settings told_currents told_warmths told_pieceCells told_pieceMonths told_pieceHighs told_pieceAges told_pieceNeeds) post → W p l e (headSpec wsX1_fit rm_X1_fit).room s m ([.ref h_o, .int x1, .int x2] : List Value).toArray below meth c H locs 0 0 Q (F0 m 29 ls []) := by
    intro v3 o_known H locs hP hD hS ls hl hw
    unfold f_X1_fit_B29 at hw
    refine lv_aload_n hx hb dX1_fit_29 rfl (lv_at hl 0 rfl) ?_
    refine va_get (D := (dC, dI)) (ci := 1) (v := .ref a_o_known) (C := RX1) (T := TX1) (N := 2) hx hb hts hi1 hown hK hP 0 rfl rfl 1 (by decide) hq0 (fun _ h9 => h9) rfl dX1_fit_30 ?_
    refine lv_iload_n hx hb dX1_fit_33 rfl (lv_at hl 1 rfl) ?_
    obtain ⟨h_1, hw⟩ := okC hw
    refine va_iald (i := v3) hx hb hK hP 1 0 rfl rfl h_1 dX1_fit_34 ?_
    rw [hQ]
    exact W.iret (v := o_known v3.toNatClampNeg) hx hb hr (fun t ht hW => ⟨⟨o_known v3.toNatClampNeg, o_known, rfl, okS hw, by rw [ht]; exact hP, va_K.moved hW.alike hK, hD⟩, hS.F ht⟩) hS.2.2 dX1_fit_35
  unfold f_X1_fit at hw
  have hP : va_P (dC, dI) vwCl (W_X1_fit cyI cyJ cyO h_o h_told a_o_known a_told_settings a_told_howFar a_told_tones a_told_currents a_told_warmths a_told_depths a_told_fars a_told_pieceCells a_told_pieceMonths a_told_pieceHighs a_told_pieceAges a_told_pieceNeeds a_told_dragCells a_told_dragEighths o_known told_pieceCount told_dragCount told_settings told_currents told_warmths told_pieceCells told_pieceMonths told_pieceHighs told_pieceAges told_pieceNeeds) s.heap := hP
  obtain ⟨H, hH⟩ : ∃ H, H = s.heap := ⟨_, rfl⟩
  obtain ⟨locs, hlo⟩ : ∃ x : List Loc, x = [] := ⟨_, rfl⟩
  have hP : va_P (dC, dI) vwCl (W_X1_fit cyI cyJ cyO h_o h_told a_o_known a_told_settings a_told_howFar a_told_tones a_told_currents a_told_warmths a_told_depths a_told_fars a_told_pieceCells a_told_pieceMonths a_told_pieceHighs a_told_pieceAges a_told_pieceNeeds a_told_dragCells a_told_dragEighths o_known told_pieceCount told_dragCount told_settings told_currents told_warmths told_pieceCells told_pieceMonths told_pieceHighs told_pieceAges told_pieceNeeds) H := by rw [hH]; exact hP
  have hS : va_S A s.heap H locs := by rw [hH, hlo]; exact hS
  refine kH hH hlo ?_
  clear hH hlo
  refine lv_bipush (v := 100) hx hb dX1_fit_0 (by decide) ?_
  refine lv_iload_n hx hb dX1_fit_2 rfl (lv_at hl 1 rfl) ?_
  refine lv_imul hx hb dX1_fit_3 ?_
  refine lv_iload_n hx hb dX1_fit_4 rfl (lv_at hl 2 rfl) ?_
  refine lv_iadd hx hb dX1_fit_5 ?_
  refine lv_topi (fun x_2 ex_2 => ?_)
  replace hw := okN ex_2 hw
  clear ex_2
  refine lv_istore_n (lv' := [(3, .int x_2), (0, .ref h_o), (1, .int x1), (2, .int x2)]) hx hb dX1_fit_6 rfl hl (by decide) rfl (fun ls hl => ?_)
  refine lv_aload_n hx hb dX1_fit_7 rfl (lv_at hl 1 rfl) ?_
  refine va_get (D := (dC, dI)) (ci := 1) (v := .ref a_o_known) (C := RX1) (T := TX1) (N := 2) hx hb hts hi1 hown hK hP 0 rfl rfl 1 (by decide) hq0 (fun _ h9 => h9) rfl dX1_fit_8 ?_
  refine lv_iload_n hx hb dX1_fit_11 rfl (lv_at hl 0 rfl) ?_
  obtain ⟨h_3, hw⟩ := okC hw
  refine va_iald (i := x_2) hx hb hK hP 1 0 rfl rfl h_3 dX1_fit_12 ?_
  refine lv_iconst (v := (-1)) hx hb dX1_fit_13 (by decide) ?_
  refine lv_icmp_ne (tgt := 29) hx hb dX1_fit_14 (by decide) (fun c_4 => ?_) (fun c_4 => ?_)
  · replace hw := okF hw c_4
    clear c_4
    exact w29 x_2 o_known _ _ hP hD hS _ (lv_sub hl [1, 0] rfl) hw
  · replace hw := okT hw c_4
    clear c_4
    refine lv_aload_n hx hb dX1_fit_17 rfl (lv_at hl 1 rfl) ?_
    refine va_get (D := (dC, dI)) (ci := 1) (v := .ref a_o_known) (C := RX1) (T := TX1) (N := 2) hx hb hts hi1 hown hK hP 0 rfl rfl 1 (by decide) hq0 (fun _ h9 => h9) rfl dX1_fit_18 ?_
    refine lv_iload_n hx hb dX1_fit_21 rfl (lv_at hl 0 rfl) ?_
    refine lv_aload_n hx hb dX1_fit_22 rfl (lv_at hl 1 rfl) ?_
    refine lv_iload_n hx hb dX1_fit_23 rfl (lv_at hl 2 rfl) ?_
    refine lv_iload_n hx hb dX1_fit_24 rfl (lv_at hl 3 rfl) ?_
    have hPc := hP.sub (ws' := (W_X1_reckon cyI cyJ cyO h_o h_told a_o_known a_told_settings a_told_howFar a_told_tones a_told_currents a_told_warmths a_told_depths a_told_fars a_told_pieceCells a_told_pieceMonths a_told_pieceHighs a_told_pieceAges a_told_pieceNeeds a_told_dragCells a_told_dragEighths told_pieceCount told_dragCount told_settings told_currents told_warmths told_pieceCells told_pieceMonths told_pieceHighs told_pieceAges told_pieceNeeds)) [0, 2, 3, 4, 5, 6, 7, 8, 9, 10] rfl
    have hDc := hD.sub (ws' := (W_X1_reckon cyI cyJ cyO h_o h_told a_o_known a_told_settings a_told_howFar a_told_tones a_told_currents a_told_warmths a_told_depths a_told_fars a_told_pieceCells a_told_pieceMonths a_told_pieceHighs a_told_pieceAges a_told_pieceNeeds a_told_dragCells a_told_dragEighths told_pieceCount told_dragCount told_settings told_currents told_warmths told_pieceCells told_pieceMonths told_pieceHighs told_pieceAges told_pieceNeeds)) [0, 2, 3, 4, 5, 6, 7, 8, 9, 10] (by decide +kernel) rfl
    have hFc := va_free (wc := (W_X1_reckon cyI cyJ cyO h_o h_told a_o_known a_told_settings a_told_howFar a_told_tones a_told_currents a_told_warmths a_told_depths a_told_fars a_told_pieceCells a_told_pieceMonths a_told_pieceHighs a_told_pieceAges a_told_pieceNeeds a_told_dragCells a_told_dragEighths told_pieceCount told_dragCount told_settings told_currents told_warmths told_pieceCells told_pieceMonths told_pieceHighs told_pieceAges told_pieceNeeds)) hD hS hA [0, 2, 3, 4, 5, 6, 7, 8, 9, 10] rfl
    refine kc_i (wr := [(a_o_known, .inl (cyI, 400, .inl o_known))]) (va_runV (As := [.int x1, .int x2]) (rest := [.int x_2, .ref a_o_known]) ⟨hx, hb, hml, hown, hts⟩ (c_X1_reckon l dC dI cyI cyJ cyO H.size tD tR tL tM h_o h_told a_o_known a_told_settings a_told_howFar a_told_tones a_told_currents a_told_warmths a_told_depths a_told_fars a_told_pieceCells a_told_pieceMonths a_told_pieceHighs a_told_pieceAges a_told_pieceNeeds a_told_dragCells a_told_dragEighths told_pieceCount told_dragCount told_settings told_currents told_warmths told_pieceCells told_pieceMonths told_pieceHighs told_pieceAges told_pieceNeeds x1 x2 _ (okb1 hw)) (cwV 2 hts (gdV (fun w h => List.mem_cons_of_mem _ h) q_516 q_518 qs_19 q_4 q_519) rfl rfl rfl (by decide +kernel) ⟨Nat.le_of_ble_eq_true rfl, Nat.le_of_ble_eq_true rfl⟩) ⟨(kpre zX_ok hK hPc hDc hZ hS hFc).1, va_recv hK hP (ci := 1) (q0 := 0) rfl rfl, (kpre zX_ok hK hPc hDc hZ hS hFc).2⟩ rfl rfl hl.1 rfl (lv_room (Nat.le_of_ble_eq_true rfl)) dX1_fit_25 ⟨Nat.le_of_ble_eq_true rfl, Nat.le_of_ble_eq_true rfl⟩) hP hD hS hFc [0, 2, 3, 4, 5, 6, 7, 8, 9, 10] [1] rfl rfl (by decide +kernel) (by decide +kernel) (fun r_5 u H locs hw hP hD hS => ?_)
    try dsimp only at hw
    have hP : va_P (dC, dI) vwCl (W_X1_fit cyI cyJ cyO h_o h_told a_o_known a_told_settings a_told_howFar a_told_tones a_told_currents a_told_warmths a_told_depths a_told_fars a_told_pieceCells a_told_pieceMonths a_told_pieceHighs a_told_pieceAges a_told_pieceNeeds a_told_dragCells a_told_dragEighths o_known told_pieceCount told_dragCount told_settings told_currents told_warmths told_pieceCells told_pieceMonths told_pieceHighs told_pieceAges told_pieceNeeds) H := hP.sub [1, 0, 2, 3, 4, 5, 6, 7, 8, 9, 10] rfl
    have hD : va_D A (W_X1_fit cyI cyJ cyO h_o h_told a_o_known a_told_settings a_told_howFar a_told_tones a_told_currents a_told_warmths a_told_depths a_told_fars a_told_pieceCells a_told_pieceMonths a_told_pieceHighs a_told_pieceAges a_told_pieceNeeds a_told_dragCells a_told_dragEighths o_known told_pieceCount told_dragCount told_settings told_currents told_warmths told_pieceCells told_pieceMonths told_pieceHighs told_pieceAges told_pieceNeeds) := hD.sub [1, 0, 2, 3, 4, 5, 6, 7, 8, 9, 10] (by decide +kernel) rfl
    clear hPc hDc hFc
    obtain ⟨h_6, hw⟩ := okC hw
    refine va_iast (i := x_2) (x := r_5) hx hb hK hP hD hS 1 0 rfl rfl h_6 dX1_fit_28 (fun H locs hP hD hS => ?_)
    have hP : va_P (dC, dI) vwCl (W_X1_fit cyI cyJ cyO h_o h_told a_o_known a_told_settings a_told_howFar a_told_tones a_told_currents a_told_warmths a_told_depths a_told_fars a_told_pieceCells a_told_pieceMonths a_told_pieceHighs a_told_pieceAges a_told_pieceNeeds a_told_dragCells a_told_dragEighths (upd o_known x_2.toNatClampNeg r_5) told_pieceCount told_dragCount told_settings told_currents told_warmths told_pieceCells told_pieceMonths told_pieceHighs told_pieceAges told_pieceNeeds) H := hP
    have hD : va_D A (W_X1_fit cyI cyJ cyO h_o h_told a_o_known a_told_settings a_told_howFar a_told_tones a_told_currents a_told_warmths a_told_depths a_told_fars a_told_pieceCells a_told_pieceMonths a_told_pieceHighs a_told_pieceAges a_told_pieceNeeds a_told_dragCells a_told_dragEighths (upd o_known x_2.toNatClampNeg r_5) told_pieceCount told_dragCount told_settings told_currents told_warmths told_pieceCells told_pieceMonths told_pieceHighs told_pieceAges told_pieceNeeds) := hD
    exact w29 x_2 (upd o_known x_2.toNatClampNeg r_5) _ _ hP hD hS _ (lv_sub hl [1, 0] rfl) hw
/-! ===== X1_forget ===== -/
theorem dX1_forget_0 : decode cX1_forget 0 = .ok (.iconst 0, 1) := by decide +kernel
theorem dX1_forget_1 : decode cX1_forget 1 = .ok (.istore_n 1, 1) := by decide +kernel
theorem dX1_forget_2 : decode cX1_forget 2 = .ok (.iload_n 1, 1) := by decide +kernel
theorem dX1_forget_3 : decode cX1_forget 3 = .ok (.sipush 400, 3) := by decide +kernel
theorem dX1_forget_6 : decode cX1_forget 6 = .ok (.if_icmp .ge 16, 3) := by decide +kernel
theorem dX1_forget_9 : decode cX1_forget 9 = .ok (.aload_n 0, 1) := by decide +kernel
theorem dX1_forget_10 : decode cX1_forget 10 = .ok (.getfield 9, 3) := by decide +kernel
theorem dX1_forget_13 : decode cX1_forget 13 = .ok (.iload_n 1, 1) := by decide +kernel
theorem dX1_forget_14 : decode cX1_forget 14 = .ok (.iconst (-1), 1) := by decide +kernel
theorem dX1_forget_15 : decode cX1_forget 15 = .ok (.iastore, 1) := by decide +kernel
theorem dX1_forget_16 : decode cX1_forget 16 = .ok (.iinc 1 1, 3) := by decide +kernel
theorem dX1_forget_19 : decode cX1_forget 19 = .ok (.goto (-17), 3) := by decide +kernel
theorem dX1_forget_22 : decode cX1_forget 22 = .ok (.return_, 1) := by decide +kernel
abbrev W_X1_forget (cyI cyJ cyO : ClassId) (h_o h_told a_o_known : Nat) (o_known : Nat → Int32) : va_W := [(h_o, .inr (1, [.ref h_told, .ref a_o_known])), (a_o_known, .inl (cyI, 400, .inl o_known))]
def f_X1_forget_L2b (k2 : Int32 → (Nat → Int32) → Option ((Nat → Int32))) (v1 : Int32) (o_known : Nat → Int32) : Option ((Nat → Int32)) :=
  if 400 ≤ v1 then
    some o_known
  else
    chk (¬ (v1 < 0 ∨ 400 ≤ v1.toNatClampNeg)) <|
    nm (v1 + 1) fun x_1 =>
    k2 x_1 (upd o_known v1.toNatClampNeg (-1))
def f_X1_forget_L2 : Nat → Int32 → (Nat → Int32) → Option ((Nat → Int32))
  | 0 => fun _ _ => none
  | n + 1 => f_X1_forget_L2b (f_X1_forget_L2 n)
def f_X1_forget (o_known : Nat → Int32) : Option ((Nat → Int32)) :=
  f_X1_forget_L2 FU 0 o_known
abbrev rm_X1_forget : Room := { frames := 0, cells := 0, slots := 0, locals := 0 }
set_option maxRecDepth 100000 in
set_option maxHeartbeats 4000000 in
theorem c_X1_forget (l : Launch) (dC : Nat → ClassId) (dI : Nat → Nat → Nat) (cyI cyJ cyO : ClassId) (sz : Nat) (h_o h_told a_o_known : Nat) (o_known : Nat → Int32) (post : ((Nat → Int32)) → Prop) (hf : okP (f_X1_forget o_known) post) : Cv l (dC, dI) (tyL cyI cyJ cyO) yX1_forget wsX1_forget rm_X1_forget [.ref h_o] sz (W_X1_forget cyI cyJ cyO h_o h_told a_o_known o_known) zN (fun u => post u) (fun u => (W_X1_forget cyI cyJ cyO h_o h_told a_o_known u)) := by
  refine Met.ofW (cc := cX1_forget) (maxL := 2) (ret := none) (by decide) rfl ?_
  intro p e s m args below meth c s₁ B hml hv
  obtain ⟨rfl, hsz, hP, hK, hD0, hZ⟩ := hv
  have hx := B.exec
  have hb := B.bytes
  have hr := B.returns
  have hts := atoms_spec (ws := wsX1_forget) B.pre
  have hown : s.vm.findClass RX1 = some m.cls := findClass_of_methodNamed B.named
  have hlocks := B.notSynchronized
  subst hsz
  have hD := hD0.self (sz := s.heap.size)
  generalize hAe : va_A (W_X1_forget cyI cyJ cyO h_o h_told a_o_known o_known) s.heap.size = A at hD hZ ⊢
  have hA : ∀ q : Nat, s.heap.size ≤ q → A q := fun q h => by rw [← hAe]; exact Or.inr h
  clear hAe hD0
  have hS : va_S A s.heap s.heap [] := va_S.rf
  have hl := lv_entry ([.ref h_o]) (n := 2) (Nat.le_of_ble_eq_true rfl)
  rw [lg_entry_eq]
  generalize (lg_sl ([.ref h_o]) ++ List.replicate (2 - (lg_sl ([.ref h_o])).length) Slot.unset).toArray = ls at hl ⊢
  have hl : lv_has ls 2 [(0, .ref h_o)] := hl
  refine kW (fun Q hQ => ?_)
  have hq0 := hts _ (List.mem_cons_of_mem _ q_198)
  have hi1 : ∀ w ∈ u_ws RX1 TX1 2, w ∈ wsX1_forget := fun w h => List.mem_cons_of_mem _ (inX1 w h)
  have hw := hf
  have w2 : ∀ (n : Nat), ∀ (v1 : Int32) (o_known : Nat → Int32) (H : Heap) (locs : List Loc), va_P (dC, dI) vwCl (W_X1_forget cyI cyJ cyO h_o h_told a_o_known o_known) H → va_D A (W_X1_forget cyI cyJ cyO h_o h_told a_o_known o_known) → va_S A s.heap H locs → ∀ (ls : Array Slot), lv_has ls 2 [(0, .ref h_o), (1, .int v1)] → okP (f_X1_forget_L2 n v1 o_known) post → W p l e (headSpec wsX1_forget rm_X1_forget).room s m ([.ref h_o] : List Value).toArray below meth c H locs 0 0 Q (F0 m 2 ls []) := by
    intro n
    induction n with
    | zero =>
      intro v1 o_known H locs hP hD hS ls hl hw
      exact (ok0 hw).elim
    | succ n2 ih2 =>
      intro v1 o_known H locs hP hD hS ls hl hw
      replace hw : okP (f_X1_forget_L2b (f_X1_forget_L2 n2) v1 o_known) post := hw
      unfold f_X1_forget_L2b at hw
      refine lv_iload_n hx hb dX1_forget_2 rfl (lv_at hl 1 rfl) ?_
      refine lv_sipush (v := 400) hx hb dX1_forget_3 (by decide) ?_
      refine lv_icmp_ge (tgt := 22) hx hb dX1_forget_6 (by decide) (fun c_1 => ?_) (fun c_1 => ?_)
      · replace hw := okT hw c_1
        clear c_1
        rw [hQ]
        exact W.vret hx hb hr (fun t ht hW => ⟨⟨o_known, rfl, okS hw, by rw [ht]; exact hP, va_K.moved hW.alike hK, hD⟩, hS.F ht⟩) hS.2.2 dX1_forget_22
      · replace hw := okF hw c_1
        clear c_1
        refine lv_aload_n hx hb dX1_forget_9 rfl (lv_at hl 0 rfl) ?_
        refine va_get (D := (dC, dI)) (ci := 1) (v := .ref a_o_known) (C := RX1) (T := TX1) (N := 2) hx hb hts hi1 hown hK hP 0 rfl rfl 1 (by decide) hq0 (fun _ h9 => h9) rfl dX1_forget_10 ?_
        refine lv_iload_n hx hb dX1_forget_13 rfl (lv_at hl 1 rfl) ?_
        refine lv_iconst (v := (-1)) hx hb dX1_forget_14 (by decide) ?_
        obtain ⟨h_2, hw⟩ := okC hw
        refine va_iast (i := v1) (x := (-1)) hx hb hK hP hD hS 1 0 rfl rfl h_2 dX1_forget_15 (fun H locs hP hD hS => ?_)
        have hP : va_P (dC, dI) vwCl (W_X1_forget cyI cyJ cyO h_o h_told a_o_known (upd o_known v1.toNatClampNeg (-1))) H := hP
        have hD : va_D A (W_X1_forget cyI cyJ cyO h_o h_told a_o_known (upd o_known v1.toNatClampNeg (-1))) := hD
        obtain ⟨x_3, ex_3⟩ : ∃ y : Int32, y = v1 + 1 := ⟨_, rfl⟩
        replace hw := okN ex_3 hw
        refine lv_iinc (v := x_3) (lv' := [(1, .int x_3), (0, .ref h_o)]) hx hb dX1_forget_16 hl (k := 1) rfl (by rw [ex_3]; rfl) (by decide) rfl (fun ls hl => ?_)
        clear ex_3
        refine lv_goto (tgt := 2) hx hb dX1_forget_19 (by decide) ?_
        exact ih2 x_3 (upd o_known v1.toNatClampNeg (-1)) _ _ hP hD hS _ (lv_sub hl [1, 0] rfl) hw
  unfold f_X1_forget at hw
  have hP : va_P (dC, dI) vwCl (W_X1_forget cyI cyJ cyO h_o h_told a_o_known o_known) s.heap := hP
  obtain ⟨H, hH⟩ : ∃ H, H = s.heap := ⟨_, rfl⟩
  obtain ⟨locs, hlo⟩ : ∃ x : List Loc, x = [] := ⟨_, rfl⟩
  have hP : va_P (dC, dI) vwCl (W_X1_forget cyI cyJ cyO h_o h_told a_o_known o_known) H := by rw [hH]; exact hP
  have hS : va_S A s.heap H locs := by rw [hH, hlo]; exact hS
  refine kH hH hlo ?_
  clear hH hlo
  refine lv_iconst (v := 0) hx hb dX1_forget_0 (by decide) ?_
  refine lv_istore_n (lv' := [(1, .int 0), (0, .ref h_o)]) hx hb dX1_forget_1 rfl hl (by decide) rfl (fun ls hl => ?_)
  exact w2 FU 0 o_known _ _ hP hD hS _ (lv_sub hl [1, 0] rfl) hw
/-! ===== X0_weigh ===== -/
theorem dX0_weigh_0 : decode cX0_weigh 0 = .ok (.aload_n 0, 1) := by decide +kernel
theorem dX0_weigh_1 : decode cX0_weigh 1 = .ok (.lconst 0, 1) := by decide +kernel
theorem dX0_weigh_2 : decode cX0_weigh 2 = .ok (.putfield 15, 3) := by decide +kernel
theorem dX0_weigh_5 : decode cX0_weigh 5 = .ok (.iconst 0, 1) := by decide +kernel
theorem dX0_weigh_6 : decode cX0_weigh 6 = .ok (.istore_n 3, 1) := by decide +kernel
theorem dX0_weigh_7 : decode cX0_weigh 7 = .ok (.iload_n 3, 1) := by decide +kernel
theorem dX0_weigh_8 : decode cX0_weigh 8 = .ok (.bipush 100, 2) := by decide +kernel
theorem dX0_weigh_10 : decode cX0_weigh 10 = .ok (.if_icmp .ge 122, 3) := by decide +kernel
theorem dX0_weigh_13 : decode cX0_weigh 13 = .ok (.iload_n 3, 1) := by decide +kernel
theorem dX0_weigh_14 : decode cX0_weigh 14 = .ok (.aload_n 1, 1) := by decide +kernel
theorem dX0_weigh_15 : decode cX0_weigh 15 = .ok (.arraylength, 1) := by decide +kernel
theorem dX0_weigh_16 : decode cX0_weigh 16 = .ok (.if_icmp .ge 116, 3) := by decide +kernel
theorem dX0_weigh_19 : decode cX0_weigh 19 = .ok (.aload_n 1, 1) := by decide +kernel
theorem dX0_weigh_20 : decode cX0_weigh 20 = .ok (.iload_n 3, 1) := by decide +kernel
theorem dX0_weigh_21 : decode cX0_weigh 21 = .ok (.laload, 1) := by decide +kernel
theorem dX0_weigh_22 : decode cX0_weigh 22 = .ok (.lstore 4, 2) := by decide +kernel
theorem dX0_weigh_24 : decode cX0_weigh 24 = .ok (.lload 4, 2) := by decide +kernel
theorem dX0_weigh_26 : decode cX0_weigh 26 = .ok (.lconst 0, 1) := by decide +kernel
theorem dX0_weigh_27 : decode cX0_weigh 27 = .ok (.lcmp, 1) := by decide +kernel
theorem dX0_weigh_28 : decode cX0_weigh 28 = .ok (.ifCond .eq 22, 3) := by decide +kernel
theorem dX0_weigh_31 : decode cX0_weigh 31 = .ok (.iload_n 2, 1) := by decide +kernel
theorem dX0_weigh_32 : decode cX0_weigh 32 = .ok (.bipush 12, 2) := by decide +kernel
theorem dX0_weigh_34 : decode cX0_weigh 34 = .ok (.if_icmp .eq 16, 3) := by decide +kernel
theorem dX0_weigh_37 : decode cX0_weigh 37 = .ok (.lload 4, 2) := by decide +kernel
theorem dX0_weigh_39 : decode cX0_weigh 39 = .ok (.aload_n 0, 1) := by decide +kernel
theorem dX0_weigh_40 : decode cX0_weigh 40 = .ok (.getfield 19, 3) := by decide +kernel
theorem dX0_weigh_43 : decode cX0_weigh 43 = .ok (.iload_n 3, 1) := by decide +kernel
theorem dX0_weigh_44 : decode cX0_weigh 44 = .ok (.invokevirtual 27, 3) := by decide +kernel
theorem dX0_weigh_47 : decode cX0_weigh 47 = .ok (.lmul, 1) := by decide +kernel
theorem dX0_weigh_48 : decode cX0_weigh 48 = .ok (.lstore 4, 2) := by decide +kernel
theorem dX0_weigh_50 : decode cX0_weigh 50 = .ok (.iconst 0, 1) := by decide +kernel
theorem dX0_weigh_51 : decode cX0_weigh 51 = .ok (.istore 6, 2) := by decide +kernel
theorem dX0_weigh_53 : decode cX0_weigh 53 = .ok (.iload 6, 2) := by decide +kernel
theorem dX0_weigh_55 : decode cX0_weigh 55 = .ok (.aload_n 0, 1) := by decide +kernel
theorem dX0_weigh_56 : decode cX0_weigh 56 = .ok (.getfield 19, 3) := by decide +kernel
theorem dX0_weigh_59 : decode cX0_weigh 59 = .ok (.getfield 33, 3) := by decide +kernel
theorem dX0_weigh_62 : decode cX0_weigh 62 = .ok (.if_icmp .ge 45, 3) := by decide +kernel
theorem dX0_weigh_65 : decode cX0_weigh 65 = .ok (.lload 4, 2) := by decide +kernel
theorem dX0_weigh_67 : decode cX0_weigh 67 = .ok (.lconst 0, 1) := by decide +kernel
theorem dX0_weigh_68 : decode cX0_weigh 68 = .ok (.lcmp, 1) := by decide +kernel
theorem dX0_weigh_69 : decode cX0_weigh 69 = .ok (.ifCond .eq 38, 3) := by decide +kernel
theorem dX0_weigh_72 : decode cX0_weigh 72 = .ok (.lload 4, 2) := by decide +kernel
theorem dX0_weigh_74 : decode cX0_weigh 74 = .ok (.iload 6, 2) := by decide +kernel
theorem dX0_weigh_76 : decode cX0_weigh 76 = .ok (.iload_n 2, 1) := by decide +kernel
theorem dX0_weigh_77 : decode cX0_weigh 77 = .ok (.bipush 8, 2) := by decide +kernel
theorem dX0_weigh_79 : decode cX0_weigh 79 = .ok (.isub, 1) := by decide +kernel
theorem dX0_weigh_80 : decode cX0_weigh 80 = .ok (.if_icmp .ne 7, 3) := by decide +kernel
theorem dX0_weigh_83 : decode cX0_weigh 83 = .ok (.lconst 1, 1) := by decide +kernel
theorem dX0_weigh_84 : decode cX0_weigh 84 = .ok (.goto 14, 3) := by decide +kernel
theorem dX0_weigh_87 : decode cX0_weigh 87 = .ok (.aload_n 0, 1) := by decide +kernel
theorem dX0_weigh_88 : decode cX0_weigh 88 = .ok (.getfield 23, 3) := by decide +kernel
theorem dX0_weigh_91 : decode cX0_weigh 91 = .ok (.iload 6, 2) := by decide +kernel
theorem dX0_weigh_93 : decode cX0_weigh 93 = .ok (.iload_n 3, 1) := by decide +kernel
theorem dX0_weigh_94 : decode cX0_weigh 94 = .ok (.invokevirtual 37, 3) := by decide +kernel
theorem dX0_weigh_97 : decode cX0_weigh 97 = .ok (.i2l, 1) := by decide +kernel
theorem dX0_weigh_98 : decode cX0_weigh 98 = .ok (.lmul, 1) := by decide +kernel
theorem dX0_weigh_99 : decode cX0_weigh 99 = .ok (.lstore 4, 2) := by decide +kernel
theorem dX0_weigh_101 : decode cX0_weigh 101 = .ok (.iinc 6 1, 3) := by decide +kernel
theorem dX0_weigh_104 : decode cX0_weigh 104 = .ok (.goto (-51), 3) := by decide +kernel
theorem dX0_weigh_107 : decode cX0_weigh 107 = .ok (.aload_n 0, 1) := by decide +kernel
theorem dX0_weigh_108 : decode cX0_weigh 108 = .ok (.getfield 9, 3) := by decide +kernel
theorem dX0_weigh_111 : decode cX0_weigh 111 = .ok (.iload_n 3, 1) := by decide +kernel
theorem dX0_weigh_112 : decode cX0_weigh 112 = .ok (.lload 4, 2) := by decide +kernel
theorem dX0_weigh_114 : decode cX0_weigh 114 = .ok (.lastore, 1) := by decide +kernel
theorem dX0_weigh_115 : decode cX0_weigh 115 = .ok (.aload_n 0, 1) := by decide +kernel
theorem dX0_weigh_116 : decode cX0_weigh 116 = .ok (.dup, 1) := by decide +kernel
theorem dX0_weigh_117 : decode cX0_weigh 117 = .ok (.getfield 15, 3) := by decide +kernel
theorem dX0_weigh_120 : decode cX0_weigh 120 = .ok (.lload 4, 2) := by decide +kernel
theorem dX0_weigh_122 : decode cX0_weigh 122 = .ok (.ladd, 1) := by decide +kernel
theorem dX0_weigh_123 : decode cX0_weigh 123 = .ok (.putfield 15, 3) := by decide +kernel
theorem dX0_weigh_126 : decode cX0_weigh 126 = .ok (.iinc 3 1, 3) := by decide +kernel
theorem dX0_weigh_129 : decode cX0_weigh 129 = .ok (.goto (-122), 3) := by decide +kernel
theorem dX0_weigh_132 : decode cX0_weigh 132 = .ok (.return_, 1) := by decide +kernel
abbrev W_X0_weigh (cyI cyJ cyO : ClassId) (n_p1 : Nat) (h_o h_told h_seas a_o_sums a_told_settings a_told_howFar a_told_tones a_told_currents a_told_warmths a_told_depths a_told_fars a_told_pieceCells a_told_pieceMonths a_told_pieceHighs a_told_pieceAges a_told_pieceNeeds a_told_dragCells a_told_dragEighths a_seas_known a_p1 : Nat) (o_total : Int64) (o_sums : Nat → Int64) (told_pieceCount : Int32) (told_dragCount : Int32) (told_settings : Nat → Int32) (told_currents : Nat → Int32) (told_warmths : Nat → Int32) (told_pieceCells : Nat → Int32) (told_pieceMonths : Nat → Int32) (told_pieceHighs : Nat → Int32) (told_pieceAges : Nat → Int32) (told_pieceNeeds : Nat → Int32) (told_dragCells : Nat → Int32) (told_dragEighths : Nat → Int32) (seas_known : Nat → Int32) (p1_arr : Nat → Int64) : va_W := [(h_o, .inr (0, [.ref h_told, .ref h_seas, .ref a_o_sums, .long o_total])), (a_o_sums, .inl (cyJ, 100, .inr (.inl o_sums))), (h_told, .inr (4, [.ref a_told_settings, .ref a_told_howFar, .ref a_told_tones, .ref a_told_currents, .ref a_told_warmths, .ref a_told_depths, .ref a_told_fars, .ref a_told_pieceCells, .ref a_told_pieceMonths, .ref a_told_pieceHighs, .ref a_told_pieceAges, .ref a_told_pieceNeeds, .ref a_told_dragCells, .ref a_told_dragEighths, .int told_pieceCount, .int told_dragCount])), (a_told_settings, .inl (cyI, 8, .inl told_settings)), (a_told_currents, .inl (cyI, 200, .inl told_currents)), (a_told_warmths, .inl (cyI, 200, .inl told_warmths)), (a_told_pieceCells, .inl (cyI, 4, .inl told_pieceCells)), (a_told_pieceMonths, .inl (cyI, 4, .inl told_pieceMonths)), (a_told_pieceHighs, .inl (cyI, 4, .inl told_pieceHighs)), (a_told_pieceAges, .inl (cyI, 4, .inl told_pieceAges)), (a_told_pieceNeeds, .inl (cyI, 4, .inl told_pieceNeeds)), (a_told_dragCells, .inl (cyI, 4, .inl told_dragCells)), (a_told_dragEighths, .inl (cyI, 4, .inl told_dragEighths)), (h_seas, .inr (1, [.ref h_told, .ref a_seas_known])), (a_seas_known, .inl (cyI, 400, .inl seas_known)), (a_p1, .inl (cyJ, n_p1, .inr (.inl p1_arr)))]
def f_X0_weigh_B107 (n_p1 : Nat) (k7 : Int32 → Int32 → Int64 → (Nat → Int64) → Int32 → Int32 → (Nat → Int32) → (Nat → Int32) → (Nat → Int32) → (Nat → Int32) → (Nat → Int32) → (Nat → Int32) → (Nat → Int32) → (Nat → Int32) → (Nat → Int32) → (Nat → Int32) → (Nat → Int32) → (Nat → Int64) → Option (Int64 × (Nat → Int64) × (Nat → Int32))) (v2 : Int32) (v3 : Int32) (v4 : Int64) (o_total : Int64) (o_sums : Nat → Int64) (told_pieceCount : Int32) (told_dragCount : Int32) (told_settings : Nat → Int32) (told_currents : Nat → Int32) (told_warmths : Nat → Int32) (told_pieceCells : Nat → Int32) (told_pieceMonths : Nat → Int32) (told_pieceHighs : Nat → Int32) (told_pieceAges : Nat → Int32) (told_pieceNeeds : Nat → Int32) (told_dragCells : Nat → Int32) (told_dragEighths : Nat → Int32) (seas_known : Nat → Int32) (p1_arr : Nat → Int64) : Option (Int64 × (Nat → Int64) × (Nat → Int32)) :=
  chk (¬ (v3 < 0 ∨ 100 ≤ v3.toNatClampNeg)) <|
  nm (o_total + v4) fun x_1 =>
  nm (v3 + 1) fun x_2 =>
  k7 v2 x_2 x_1 (vp_updL o_sums v3.toNatClampNeg v4) told_pieceCount told_dragCount told_settings told_currents told_warmths told_pieceCells told_pieceMonths told_pieceHighs told_pieceAges told_pieceNeeds told_dragCells told_dragEighths seas_known p1_arr
def f_X0_weigh_B98 (n_p1 : Nat) (k7 : Int32 → Int32 → Int64 → (Nat → Int64) → Int32 → Int32 → (Nat → Int32) → (Nat → Int32) → (Nat → Int32) → (Nat → Int32) → (Nat → Int32) → (Nat → Int32) → (Nat → Int32) → (Nat → Int32) → (Nat → Int32) → (Nat → Int32) → (Nat → Int32) → (Nat → Int64) → Option (Int64 × (Nat → Int64) × (Nat → Int32))) (k53 : Int32 → Int32 → Int64 → Int32 → Int64 → (Nat → Int64) → Int32 → Int32 → (Nat → Int32) → (Nat → Int32) → (Nat → Int32) → (Nat → Int32) → (Nat → Int32) → (Nat → Int32) → (Nat → Int32) → (Nat → Int32) → (Nat → Int32) → (Nat → Int32) → (Nat → Int32) → (Nat → Int64) → Option (Int64 × (Nat → Int64) × (Nat → Int32))) (v2 : Int32) (v3 : Int32) (v6 : Int32) (y0 : Int64) (y1 : Int64) (o_total : Int64) (o_sums : Nat → Int64) (told_pieceCount : Int32) (told_dragCount : Int32) (told_settings : Nat → Int32) (told_currents : Nat → Int32) (told_warmths : Nat → Int32) (told_pieceCells : Nat → Int32) (told_pieceMonths : Nat → Int32) (told_pieceHighs : Nat → Int32) (told_pieceAges : Nat → Int32) (told_pieceNeeds : Nat → Int32) (told_dragCells : Nat → Int32) (told_dragEighths : Nat → Int32) (seas_known : Nat → Int32) (p1_arr : Nat → Int64) : Option (Int64 × (Nat → Int64) × (Nat → Int32)) :=
  nm (y1 * y0) fun x_3 =>
  nm (v6 + 1) fun x_4 =>
  k53 v2 v3 x_3 x_4 o_total o_sums told_pieceCount told_dragCount told_settings told_currents told_warmths told_pieceCells told_pieceMonths told_pieceHighs told_pieceAges told_pieceNeeds told_dragCells told_dragEighths seas_known p1_arr
def f_X0_weigh_L53b (n_p1 : Nat) (k7 : Int32 → Int32 → Int64 → (Nat → Int64) → Int32 → Int32 → (Nat → Int32) → (Nat → Int32) → (Nat → Int32) → (Nat → Int32) → (Nat → Int32) → (Nat → Int32) → (Nat → Int32) → (Nat → Int32) → (Nat → Int32) → (Nat → Int32) → (Nat → Int32) → (Nat → Int64) → Option (Int64 × (Nat → Int64) × (Nat → Int32))) (k53 : Int32 → Int32 → Int64 → Int32 → Int64 → (Nat → Int64) → Int32 → Int32 → (Nat → Int32) → (Nat → Int32) → (Nat → Int32) → (Nat → Int32) → (Nat → Int32) → (Nat → Int32) → (Nat → Int32) → (Nat → Int32) → (Nat → Int32) → (Nat → Int32) → (Nat → Int32) → (Nat → Int64) → Option (Int64 × (Nat → Int64) × (Nat → Int32))) (v2 : Int32) (v3 : Int32) (v4 : Int64) (v6 : Int32) (o_total : Int64) (o_sums : Nat → Int64) (told_pieceCount : Int32) (told_dragCount : Int32) (told_settings : Nat → Int32) (told_currents : Nat → Int32) (told_warmths : Nat → Int32) (told_pieceCells : Nat → Int32) (told_pieceMonths : Nat → Int32) (told_pieceHighs : Nat → Int32) (told_pieceAges : Nat → Int32) (told_pieceNeeds : Nat → Int32) (told_dragCells : Nat → Int32) (told_dragEighths : Nat → Int32) (seas_known : Nat → Int32) (p1_arr : Nat → Int64) : Option (Int64 × (Nat → Int64) × (Nat → Int32)) :=
  if told_pieceCount ≤ v6 then
    f_X0_weigh_B107 n_p1 k7 v2 v3 v4 o_total o_sums told_pieceCount told_dragCount told_settings told_currents told_warmths told_pieceCells told_pieceMonths told_pieceHighs told_pieceAges told_pieceNeeds told_dragCells told_dragEighths seas_known p1_arr
  else
    if (lg_cmp v4 0) = 0 then
      f_X0_weigh_B107 n_p1 k7 v2 v3 v4 o_total o_sums told_pieceCount told_dragCount told_settings told_currents told_warmths told_pieceCells told_pieceMonths told_pieceHighs told_pieceAges told_pieceNeeds told_dragCells told_dragEighths seas_known p1_arr
    else
      if v6 = (v2 - 8) then
        f_X0_weigh_B98 n_p1 k7 k53 v2 v3 v6 1 v4 o_total o_sums told_pieceCount told_dragCount told_settings told_currents told_warmths told_pieceCells told_pieceMonths told_pieceHighs told_pieceAges told_pieceNeeds told_dragCells told_dragEighths seas_known p1_arr
      else
        bd2 (f_X1_fit v6 v3 seas_known told_settings told_currents told_warmths told_pieceCells told_pieceMonths told_pieceHighs told_pieceAges told_pieceNeeds) fun r_5 w_6 =>
        f_X0_weigh_B98 n_p1 k7 k53 v2 v3 v6 r_5.toInt64 v4 o_total o_sums told_pieceCount told_dragCount told_settings told_currents told_warmths told_pieceCells told_pieceMonths told_pieceHighs told_pieceAges told_pieceNeeds told_dragCells told_dragEighths w_6 p1_arr
def f_X0_weigh_L53 (n_p1 : Nat) (k7 : Int32 → Int32 → Int64 → (Nat → Int64) → Int32 → Int32 → (Nat → Int32) → (Nat → Int32) → (Nat → Int32) → (Nat → Int32) → (Nat → Int32) → (Nat → Int32) → (Nat → Int32) → (Nat → Int32) → (Nat → Int32) → (Nat → Int32) → (Nat → Int32) → (Nat → Int64) → Option (Int64 × (Nat → Int64) × (Nat → Int32))) : Nat → Int32 → Int32 → Int64 → Int32 → Int64 → (Nat → Int64) → Int32 → Int32 → (Nat → Int32) → (Nat → Int32) → (Nat → Int32) → (Nat → Int32) → (Nat → Int32) → (Nat → Int32) → (Nat → Int32) → (Nat → Int32) → (Nat → Int32) → (Nat → Int32) → (Nat → Int32) → (Nat → Int64) → Option (Int64 × (Nat → Int64) × (Nat → Int32))
  | 0 => fun _ _ _ _ _ _ _ _ _ _ _ _ _ _ _ _ _ _ _ _ => none
  | n + 1 => f_X0_weigh_L53b n_p1 k7 (f_X0_weigh_L53 n_p1 k7 n)
def f_X0_weigh_B50 (n_p1 : Nat) (k7 : Int32 → Int32 → Int64 → (Nat → Int64) → Int32 → Int32 → (Nat → Int32) → (Nat → Int32) → (Nat → Int32) → (Nat → Int32) → (Nat → Int32) → (Nat → Int32) → (Nat → Int32) → (Nat → Int32) → (Nat → Int32) → (Nat → Int32) → (Nat → Int32) → (Nat → Int64) → Option (Int64 × (Nat → Int64) × (Nat → Int32))) (v2 : Int32) (v3 : Int32) (v4 : Int64) (o_total : Int64) (o_sums : Nat → Int64) (told_pieceCount : Int32) (told_dragCount : Int32) (told_settings : Nat → Int32) (told_currents : Nat → Int32) (told_warmths : Nat → Int32) (told_pieceCells : Nat → Int32) (told_pieceMonths : Nat → Int32) (told_pieceHighs : Nat → Int32) (told_pieceAges : Nat → Int32) (told_pieceNeeds : Nat → Int32) (told_dragCells : Nat → Int32) (told_dragEighths : Nat → Int32) (seas_known : Nat → Int32) (p1_arr : Nat → Int64) : Option (Int64 × (Nat → Int64) × (Nat → Int32)) :=
  f_X0_weigh_L53 n_p1 k7 FU v2 v3 v4 0 o_total o_sums told_pieceCount told_dragCount told_settings told_currents told_warmths told_pieceCells told_pieceMonths told_pieceHighs told_pieceAges told_pieceNeeds told_dragCells told_dragEighths seas_known p1_arr
def f_X0_weigh_L7b (n_p1 : Nat) (k7 : Int32 → Int32 → Int64 → (Nat → Int64) → Int32 → Int32 → (Nat → Int32) → (Nat → Int32) → (Nat → Int32) → (Nat → Int32) → (Nat → Int32) → (Nat → Int32) → (Nat → Int32) → (Nat → Int32) → (Nat → Int32) → (Nat → Int32) → (Nat → Int32) → (Nat → Int64) → Option (Int64 × (Nat → Int64) × (Nat → Int32))) (v2 : Int32) (v3 : Int32) (o_total : Int64) (o_sums : Nat → Int64) (told_pieceCount : Int32) (told_dragCount : Int32) (told_settings : Nat → Int32) (told_currents : Nat → Int32) (told_warmths : Nat → Int32) (told_pieceCells : Nat → Int32) (told_pieceMonths : Nat → Int32) (told_pieceHighs : Nat → Int32) (told_pieceAges : Nat → Int32) (told_pieceNeeds : Nat → Int32) (told_dragCells : Nat → Int32) (told_dragEighths : Nat → Int32) (seas_known : Nat → Int32) (p1_arr : Nat → Int64) : Option (Int64 × (Nat → Int64) × (Nat → Int32)) :=
  if 100 ≤ v3 then
    some (o_total, o_sums, seas_known)
  else
    if (Int32.ofNat n_p1) ≤ v3 then
      some (o_total, o_sums, seas_known)
    else
      chk (¬ (v3 < 0 ∨ n_p1 ≤ v3.toNatClampNeg)) <|
      nm (p1_arr v3.toNatClampNeg) fun x_7 =>
      if (lg_cmp x_7 0) = 0 then
        f_X0_weigh_B50 n_p1 k7 v2 v3 x_7 o_total o_sums told_pieceCount told_dragCount told_settings told_currents told_warmths told_pieceCells told_pieceMonths told_pieceHighs told_pieceAges told_pieceNeeds told_dragCells told_dragEighths seas_known p1_arr
      else
        if v2 = 12 then
          f_X0_weigh_B50 n_p1 k7 v2 v3 x_7 o_total o_sums told_pieceCount told_dragCount told_settings told_currents told_warmths told_pieceCells told_pieceMonths told_pieceHighs told_pieceAges told_pieceNeeds told_dragCells told_dragEighths seas_known p1_arr
        else
          bd1 (f_X4_missed v3 told_dragCount told_dragCells told_dragEighths) fun r_8 =>
          nm (x_7 * r_8) fun x_9 =>
          f_X0_weigh_B50 n_p1 k7 v2 v3 x_9 o_total o_sums told_pieceCount told_dragCount told_settings told_currents told_warmths told_pieceCells told_pieceMonths told_pieceHighs told_pieceAges told_pieceNeeds told_dragCells told_dragEighths seas_known p1_arr
def f_X0_weigh_L7 (n_p1 : Nat) : Nat → Int32 → Int32 → Int64 → (Nat → Int64) → Int32 → Int32 → (Nat → Int32) → (Nat → Int32) → (Nat → Int32) → (Nat → Int32) → (Nat → Int32) → (Nat → Int32) → (Nat → Int32) → (Nat → Int32) → (Nat → Int32) → (Nat → Int32) → (Nat → Int32) → (Nat → Int64) → Option (Int64 × (Nat → Int64) × (Nat → Int32))
  | 0 => fun _ _ _ _ _ _ _ _ _ _ _ _ _ _ _ _ _ _ => none
  | n + 1 => f_X0_weigh_L7b n_p1 (f_X0_weigh_L7 n_p1 n)
def f_X0_weigh (n_p1 : Nat) (x2 : Int32) (o_total : Int64) (o_sums : Nat → Int64) (told_pieceCount : Int32) (told_dragCount : Int32) (told_settings : Nat → Int32) (told_currents : Nat → Int32) (told_warmths : Nat → Int32) (told_pieceCells : Nat → Int32) (told_pieceMonths : Nat → Int32) (told_pieceHighs : Nat → Int32) (told_pieceAges : Nat → Int32) (told_pieceNeeds : Nat → Int32) (told_dragCells : Nat → Int32) (told_dragEighths : Nat → Int32) (seas_known : Nat → Int32) (p1_arr : Nat → Int64) : Option (Int64 × (Nat → Int64) × (Nat → Int32)) :=
  f_X0_weigh_L7 n_p1 FU x2 0 0 o_sums told_pieceCount told_dragCount told_settings told_currents told_warmths told_pieceCells told_pieceMonths told_pieceHighs told_pieceAges told_pieceNeeds told_dragCells told_dragEighths seas_known p1_arr
abbrev rm_X0_weigh : Room := { frames := 4, cells := 0, slots := 0, locals := 100 }
set_option maxRecDepth 100000 in
set_option maxHeartbeats 4000000 in
theorem c_X0_weigh (l : Launch) (dC : Nat → ClassId) (dI : Nat → Nat → Nat) (cyI cyJ cyO : ClassId) (sz : Nat) (tD tR tL tM : Nat) (n_p1 : Nat) (h_o h_told h_seas a_o_sums a_told_settings a_told_howFar a_told_tones a_told_currents a_told_warmths a_told_depths a_told_fars a_told_pieceCells a_told_pieceMonths a_told_pieceHighs a_told_pieceAges a_told_pieceNeeds a_told_dragCells a_told_dragEighths a_seas_known a_p1 : Nat) (o_total : Int64) (o_sums : Nat → Int64) (told_pieceCount : Int32) (told_dragCount : Int32) (told_settings : Nat → Int32) (told_currents : Nat → Int32) (told_warmths : Nat → Int32) (told_pieceCells : Nat → Int32) (told_pieceMonths : Nat → Int32) (told_pieceHighs : Nat → Int32) (told_pieceAges : Nat → Int32) (told_pieceNeeds : Nat → Int32) (told_dragCells : Nat → Int32) (told_dragEighths : Nat → Int32) (seas_known : Nat → Int32) (p1_arr : Nat → Int64) (x2 : Int32) (post : (Int64 × (Nat → Int64) × (Nat → Int32)) → Prop) (hf : okP (f_X0_weigh n_p1 x2 o_total o_sums told_pieceCount told_dragCount told_settings told_currents told_warmths told_pieceCells told_pieceMonths told_pieceHighs told_pieceAges told_pieceNeeds told_dragCells told_dragEighths seas_known p1_arr) post) : Cv l (dC, dI) (tyL cyI cyJ cyO) yX0_weigh wsX0_weigh rm_X0_weigh [.ref h_o, .ref a_p1, .int x2] sz (W_X0_weigh cyI cyJ cyO n_p1 h_o h_told h_seas a_o_sums a_told_settings a_told_howFar a_told_tones a_told_currents a_told_warmths a_told_depths a_told_fars a_told_pieceCells a_told_pieceMonths a_told_pieceHighs a_told_pieceAges a_told_pieceNeeds a_told_dragCells a_told_dragEighths a_seas_known a_p1 o_total o_sums told_pieceCount told_dragCount told_settings told_currents told_warmths told_pieceCells told_pieceMonths told_pieceHighs told_pieceAges told_pieceNeeds told_dragCells told_dragEighths seas_known p1_arr) (zX tD tR tL tM) (fun u => post u) (fun u => (W_X0_weigh cyI cyJ cyO n_p1 h_o h_told h_seas a_o_sums a_told_settings a_told_howFar a_told_tones a_told_currents a_told_warmths a_told_depths a_told_fars a_told_pieceCells a_told_pieceMonths a_told_pieceHighs a_told_pieceAges a_told_pieceNeeds a_told_dragCells a_told_dragEighths a_seas_known a_p1 u.1 u.2.1 told_pieceCount told_dragCount told_settings told_currents told_warmths told_pieceCells told_pieceMonths told_pieceHighs told_pieceAges told_pieceNeeds told_dragCells told_dragEighths u.2.2 p1_arr)) := by
  refine Met.ofW (cc := cX0_weigh) (maxL := 7) (ret := none) (by decide) rfl ?_
  intro p e s m args below meth c s₁ B hml hv
  obtain ⟨rfl, hsz, hP, hK, hD0, hZ⟩ := hv
  have hx := B.exec
  have hb := B.bytes
  have hr := B.returns
  have hts := atoms_spec (ws := wsX0_weigh) B.pre
  have hown : s.vm.findClass RX0 = some m.cls := findClass_of_methodNamed B.named
  have hlocks := B.notSynchronized
  subst hsz
  have hD := hD0.self (sz := s.heap.size)
  generalize hAe : va_A (W_X0_weigh cyI cyJ cyO n_p1 h_o h_told h_seas a_o_sums a_told_settings a_told_howFar a_told_tones a_told_currents a_told_warmths a_told_depths a_told_fars a_told_pieceCells a_told_pieceMonths a_told_pieceHighs a_told_pieceAges a_told_pieceNeeds a_told_dragCells a_told_dragEighths a_seas_known a_p1 o_total o_sums told_pieceCount told_dragCount told_settings told_currents told_warmths told_pieceCells told_pieceMonths told_pieceHighs told_pieceAges told_pieceNeeds told_dragCells told_dragEighths seas_known p1_arr) s.heap.size = A at hD hZ ⊢
  have hA : ∀ q : Nat, s.heap.size ≤ q → A q := fun q h => by rw [← hAe]; exact Or.inr h
  clear hAe hD0
  have hS : va_S A s.heap s.heap [] := va_S.rf
  have hl := lv_entry ([.ref h_o, .ref a_p1, .int x2]) (n := 7) (Nat.le_of_ble_eq_true rfl)
  rw [lg_entry_eq]
  generalize (lg_sl ([.ref h_o, .ref a_p1, .int x2]) ++ List.replicate (7 - (lg_sl ([.ref h_o, .ref a_p1, .int x2])).length) Slot.unset).toArray = ls at hl ⊢
  have hl : lv_has ls 7 [(0, .ref h_o), (1, .ref a_p1), (2, .int x2)] := hl
  refine kW (fun Q hQ => ?_)
  have hq0 := hts _ (List.mem_cons_of_mem _ q_212)
  have hi0 : ∀ w ∈ u_ws RX0 TX0 4, w ∈ wsX0_weigh := fun w h => List.mem_cons_of_mem _ (inX0 w h)
  have hq2 := hts _ (List.mem_cons_of_mem _ q_214)
  have hq3 := hts _ (List.mem_cons_of_mem _ q_210)
  have hq4 := hts _ (List.mem_cons_of_mem _ q_73)
  have hi4 : ∀ w ∈ u_ws RX4 TX4 16, w ∈ wsX0_weigh := fun w h => List.mem_cons_of_mem _ (inX4 w h)
  have hq6 := hts _ (List.mem_cons_of_mem _ q_211)
  have hw := hf
  have w7 : ∀ (n : Nat), ∀ (v2 : Int32) (v3 : Int32) (o_total : Int64) (o_sums : Nat → Int64) (seas_known : Nat → Int32) (H : Heap) (locs : List Loc), va_P (dC, dI) vwCl (W_X0_weigh cyI cyJ cyO n_p1 h_o h_told h_seas a_o_sums a_told_settings a_told_howFar a_told_tones a_told_currents a_told_warmths a_told_depths a_told_fars a_told_pieceCells a_told_pieceMonths a_told_pieceHighs a_told_pieceAges a_told_pieceNeeds a_told_dragCells a_told_dragEighths a_seas_known a_p1 o_total o_sums told_pieceCount told_dragCount told_settings told_currents told_warmths told_pieceCells told_pieceMonths told_pieceHighs told_pieceAges told_pieceNeeds told_dragCells told_dragEighths seas_known p1_arr) H → va_D A (W_X0_weigh cyI cyJ cyO n_p1 h_o h_told h_seas a_o_sums a_told_settings a_told_howFar a_told_tones a_told_currents a_told_warmths a_told_depths a_told_fars a_told_pieceCells a_told_pieceMonths a_told_pieceHighs a_told_pieceAges a_told_pieceNeeds a_told_dragCells a_told_dragEighths a_seas_known a_p1 o_total o_sums told_pieceCount told_dragCount told_settings told_currents told_warmths told_pieceCells told_pieceMonths told_pieceHighs told_pieceAges told_pieceNeeds told_dragCells told_dragEighths seas_known p1_arr) → va_S A s.heap H locs → ∀ (ls : Array Slot), lv_has ls 7 [(0, .ref h_o), (1, .ref a_p1), (2, .int v2), (3, .int v3)] → okP (f_X0_weigh_L7 n_p1 n v2 v3 o_total o_sums told_pieceCount told_dragCount told_settings told_currents told_warmths told_pieceCells told_pieceMonths told_pieceHighs told_pieceAges told_pieceNeeds told_dragCells told_dragEighths seas_known p1_arr) post → W p l e (headSpec wsX0_weigh rm_X0_weigh).room s m ([.ref h_o, .ref a_p1, .int x2] : List Value).toArray below meth c H locs 0 0 Q (F0 m 7 ls []) := by
    intro n
    induction n with
    | zero =>
      intro v2 v3 o_total o_sums seas_known H locs hP hD hS ls hl hw
      exact (ok0 hw).elim
    | succ n7 ih7 =>
      have w107 : ∀ (v2 : Int32) (v3 : Int32) (v4 : Int64) (o_total : Int64) (o_sums : Nat → Int64) (seas_known : Nat → Int32) (H : Heap) (locs : List Loc), va_P (dC, dI) vwCl (W_X0_weigh cyI cyJ cyO n_p1 h_o h_told h_seas a_o_sums a_told_settings a_told_howFar a_told_tones a_told_currents a_told_warmths a_told_depths a_told_fars a_told_pieceCells a_told_pieceMonths a_told_pieceHighs a_told_pieceAges a_told_pieceNeeds a_told_dragCells a_told_dragEighths a_seas_known a_p1 o_total o_sums told_pieceCount told_dragCount told_settings told_currents told_warmths told_pieceCells told_pieceMonths told_pieceHighs told_pieceAges told_pieceNeeds told_dragCells told_dragEighths seas_known p1_arr) H → va_D A (W_X0_weigh cyI cyJ cyO n_p1 h_o h_told h_seas a_o_sums a_told_settings a_told_howFar a_told_tones a_told_currents a_told_warmths a_told_depths a_told_fars a_told_pieceCells a_told_pieceMonths a_told_pieceHighs a_told_pieceAges a_told_pieceNeeds a_told_dragCells a_told_dragEighths a_seas_known a_p1 o_total o_sums told_pieceCount told_dragCount told_settings told_currents told_warmths told_pieceCells told_pieceMonths told_pieceHighs told_pieceAges told_pieceNeeds told_dragCells told_dragEighths seas_known p1_arr) → va_S A s.heap H locs → ∀ (ls : Array Slot), lv_has ls 7 [(0, .ref h_o), (1, .ref a_p1), (2, .int v2), (3, .int v3), (4, .long v4)] → okP (f_X0_weigh_B107 n_p1 (f_X0_weigh_L7 n_p1 n7) v2 v3 v4 o_total o_sums told_pieceCount told_dragCount told_settings told_currents told_warmths told_pieceCells told_pieceMonths told_pieceHighs told_pieceAges told_pieceNeeds told_dragCells told_dragEighths seas_known p1_arr) post → W p l e (headSpec wsX0_weigh rm_X0_weigh).room s m ([.ref h_o, .ref a_p1, .int x2] : List Value).toArray below meth c H locs 0 0 Q (F0 m 107 ls []) := by
        intro v2 v3 v4 o_total o_sums seas_known H locs hP hD hS ls hl hw
        unfold f_X0_weigh_B107 at hw
        refine lv_aload_n hx hb dX0_weigh_107 rfl (lv_at hl 0 rfl) ?_
        refine va_get (D := (dC, dI)) (ci := 0) (v := .ref a_o_sums) (C := RX0) (T := TX0) (N := 4) hx hb hts hi0 hown hK hP 0 rfl rfl 2 (by decide) hq0 (fun _ h9 => h9) rfl dX0_weigh_108 ?_
        refine lv_iload_n hx hb dX0_weigh_111 rfl (lv_at hl 3 rfl) ?_
        refine lv_lload hx hb dX0_weigh_112 (lv_at hl 4 rfl) ?_
        obtain ⟨h_1, hw⟩ := okC hw
        refine va_last (i := v3) (x := v4) hx hb hK hP hD hS 1 1 rfl rfl h_1 dX0_weigh_114 (fun H locs hP hD hS => ?_)
        have hP : va_P (dC, dI) vwCl (W_X0_weigh cyI cyJ cyO n_p1 h_o h_told h_seas a_o_sums a_told_settings a_told_howFar a_told_tones a_told_currents a_told_warmths a_told_depths a_told_fars a_told_pieceCells a_told_pieceMonths a_told_pieceHighs a_told_pieceAges a_told_pieceNeeds a_told_dragCells a_told_dragEighths a_seas_known a_p1 o_total (vp_updL o_sums v3.toNatClampNeg v4) told_pieceCount told_dragCount told_settings told_currents told_warmths told_pieceCells told_pieceMonths told_pieceHighs told_pieceAges told_pieceNeeds told_dragCells told_dragEighths seas_known p1_arr) H := hP
        have hD : va_D A (W_X0_weigh cyI cyJ cyO n_p1 h_o h_told h_seas a_o_sums a_told_settings a_told_howFar a_told_tones a_told_currents a_told_warmths a_told_depths a_told_fars a_told_pieceCells a_told_pieceMonths a_told_pieceHighs a_told_pieceAges a_told_pieceNeeds a_told_dragCells a_told_dragEighths a_seas_known a_p1 o_total (vp_updL o_sums v3.toNatClampNeg v4) told_pieceCount told_dragCount told_settings told_currents told_warmths told_pieceCells told_pieceMonths told_pieceHighs told_pieceAges told_pieceNeeds told_dragCells told_dragEighths seas_known p1_arr) := hD
        refine lv_aload_n hx hb dX0_weigh_115 rfl (lv_at hl 0 rfl) ?_
        refine lv_dup hx hb dX0_weigh_116 rfl ?_
        refine va_get (D := (dC, dI)) (ci := 0) (v := .long o_total) (C := RX0) (T := TX0) (N := 4) hx hb hts hi0 hown hK hP 0 rfl rfl 3 (by decide) hq2 (fun _ h9 => h9) rfl dX0_weigh_117 ?_
        refine lv_lload hx hb dX0_weigh_120 (lv_at hl 4 rfl) ?_
        refine lv_ladd hx hb dX0_weigh_122 ?_
        refine lv_topl (fun x_2 ex_2 => ?_)
        replace hw := okN ex_2 hw
        clear ex_2
        refine va_put (D := (dC, dI)) (ci := 0) (v := .long x_2) (ty := .long) (C := RX0) (T := TX0) (N := 4) hx hb hts hi0 tyX0 tyX0_ok nmX0 hown hK hP hD hS 0 rfl rfl 3 (by decide) hq2 (fun _ h9 => h9) rfl (by decide +kernel) rfl rfl (Nat.le_of_ble_eq_true rfl) dX0_weigh_123 (fun H locs hP hD hS => ?_)
        have hP : va_P (dC, dI) vwCl (W_X0_weigh cyI cyJ cyO n_p1 h_o h_told h_seas a_o_sums a_told_settings a_told_howFar a_told_tones a_told_currents a_told_warmths a_told_depths a_told_fars a_told_pieceCells a_told_pieceMonths a_told_pieceHighs a_told_pieceAges a_told_pieceNeeds a_told_dragCells a_told_dragEighths a_seas_known a_p1 x_2 (vp_updL o_sums v3.toNatClampNeg v4) told_pieceCount told_dragCount told_settings told_currents told_warmths told_pieceCells told_pieceMonths told_pieceHighs told_pieceAges told_pieceNeeds told_dragCells told_dragEighths seas_known p1_arr) H := hP
        have hD : va_D A (W_X0_weigh cyI cyJ cyO n_p1 h_o h_told h_seas a_o_sums a_told_settings a_told_howFar a_told_tones a_told_currents a_told_warmths a_told_depths a_told_fars a_told_pieceCells a_told_pieceMonths a_told_pieceHighs a_told_pieceAges a_told_pieceNeeds a_told_dragCells a_told_dragEighths a_seas_known a_p1 x_2 (vp_updL o_sums v3.toNatClampNeg v4) told_pieceCount told_dragCount told_settings told_currents told_warmths told_pieceCells told_pieceMonths told_pieceHighs told_pieceAges told_pieceNeeds told_dragCells told_dragEighths seas_known p1_arr) := hD
        obtain ⟨x_3, ex_3⟩ : ∃ y : Int32, y = v3 + 1 := ⟨_, rfl⟩
        replace hw := okN ex_3 hw
        refine lv_iinc (v := x_3) (lv' := [(3, .int x_3), (0, .ref h_o), (1, .ref a_p1), (2, .int v2), (4, .long v4)]) hx hb dX0_weigh_126 hl (k := 3) rfl (by rw [ex_3]; rfl) (by decide) rfl (fun ls hl => ?_)
        clear ex_3
        refine lv_goto (tgt := 7) hx hb dX0_weigh_129 (by decide) ?_
        exact ih7 v2 x_3 x_2 (vp_updL o_sums v3.toNatClampNeg v4) seas_known _ _ hP hD hS _ (lv_sub hl [1, 2, 3, 0] rfl) hw
      have w53 : ∀ (n : Nat), ∀ (v2 : Int32) (v3 : Int32) (v4 : Int64) (v6 : Int32) (o_total : Int64) (o_sums : Nat → Int64) (seas_known : Nat → Int32) (H : Heap) (locs : List Loc), va_P (dC, dI) vwCl (W_X0_weigh cyI cyJ cyO n_p1 h_o h_told h_seas a_o_sums a_told_settings a_told_howFar a_told_tones a_told_currents a_told_warmths a_told_depths a_told_fars a_told_pieceCells a_told_pieceMonths a_told_pieceHighs a_told_pieceAges a_told_pieceNeeds a_told_dragCells a_told_dragEighths a_seas_known a_p1 o_total o_sums told_pieceCount told_dragCount told_settings told_currents told_warmths told_pieceCells told_pieceMonths told_pieceHighs told_pieceAges told_pieceNeeds told_dragCells told_dragEighths seas_known p1_arr) H → va_D A (W_X0_weigh cyI cyJ cyO n_p1 h_o h_told h_seas a_o_sums a_told_settings a_told_howFar a_told_tones a_told_currents a_told_warmths a_told_depths a_told_fars a_told_pieceCells a_told_pieceMonths a_told_pieceHighs a_told_pieceAges a_told_pieceNeeds a_told_dragCells a_told_dragEighths a_seas_known a_p1 o_total o_sums told_pieceCount told_dragCount told_settings told_currents told_warmths told_pieceCells told_pieceMonths told_pieceHighs told_pieceAges told_pieceNeeds told_dragCells told_dragEighths seas_known p1_arr) → va_S A s.heap H locs → ∀ (ls : Array Slot), lv_has ls 7 [(0, .ref h_o), (1, .ref a_p1), (2, .int v2), (3, .int v3), (4, .long v4), (6, .int v6)] → okP (f_X0_weigh_L53 n_p1 (f_X0_weigh_L7 n_p1 n7) n v2 v3 v4 v6 o_total o_sums told_pieceCount told_dragCount told_settings told_currents told_warmths told_pieceCells told_pieceMonths told_pieceHighs told_pieceAges told_pieceNeeds told_dragCells told_dragEighths seas_known p1_arr) post → W p l e (headSpec wsX0_weigh rm_X0_weigh).room s m ([.ref h_o, .ref a_p1, .int x2] : List Value).toArray below meth c H locs 0 0 Q (F0 m 53 ls []) := by
        intro n
        induction n with
        | zero =>
          intro v2 v3 v4 v6 o_total o_sums seas_known H locs hP hD hS ls hl hw
          exact (ok0 hw).elim
        | succ n53 ih53 =>
          have w98 : ∀ (v2 : Int32) (v3 : Int32) (v6 : Int32) (y0 : Int64) (y1 : Int64) (o_total : Int64) (o_sums : Nat → Int64) (seas_known : Nat → Int32) (H : Heap) (locs : List Loc), va_P (dC, dI) vwCl (W_X0_weigh cyI cyJ cyO n_p1 h_o h_told h_seas a_o_sums a_told_settings a_told_howFar a_told_tones a_told_currents a_told_warmths a_told_depths a_told_fars a_told_pieceCells a_told_pieceMonths a_told_pieceHighs a_told_pieceAges a_told_pieceNeeds a_told_dragCells a_told_dragEighths a_seas_known a_p1 o_total o_sums told_pieceCount told_dragCount told_settings told_currents told_warmths told_pieceCells told_pieceMonths told_pieceHighs told_pieceAges told_pieceNeeds told_dragCells told_dragEighths seas_known p1_arr) H → va_D A (W_X0_weigh cyI cyJ cyO n_p1 h_o h_told h_seas a_o_sums a_told_settings a_told_howFar a_told_tones a_told_currents a_told_warmths a_told_depths a_told_fars a_told_pieceCells a_told_pieceMonths a_told_pieceHighs a_told_pieceAges a_told_pieceNeeds a_told_dragCells a_told_dragEighths a_seas_known a_p1 o_total o_sums told_pieceCount told_dragCount told_settings told_currents told_warmths told_pieceCells told_pieceMonths told_pieceHighs told_pieceAges told_pieceNeeds told_dragCells told_dragEighths seas_known p1_arr) → va_S A s.heap H locs → ∀ (ls : Array Slot), lv_has ls 7 [(0, .ref h_o), (1, .ref a_p1), (2, .int v2), (3, .int v3), (6, .int v6)] → okP (f_X0_weigh_B98 n_p1 (f_X0_weigh_L7 n_p1 n7) (f_X0_weigh_L53 n_p1 (f_X0_weigh_L7 n_p1 n7) n53) v2 v3 v6 y0 y1 o_total o_sums told_pieceCount told_dragCount told_settings told_currents told_warmths told_pieceCells told_pieceMonths told_pieceHighs told_pieceAges told_pieceNeeds told_dragCells told_dragEighths seas_known p1_arr) post → W p l e (headSpec wsX0_weigh rm_X0_weigh).room s m ([.ref h_o, .ref a_p1, .int x2] : List Value).toArray below meth c H locs 0 0 Q (F0 m 98 ls [.long y0, .long y1]) := by
            intro v2 v3 v6 y0 y1 o_total o_sums seas_known H locs hP hD hS ls hl hw
            unfold f_X0_weigh_B98 at hw
            refine lv_lmul hx hb dX0_weigh_98 ?_
            refine lv_topl (fun x_4 ex_4 => ?_)
            replace hw := okN ex_4 hw
            clear ex_4
            refine lv_lstore (lv' := [(4, .long x_4), (0, .ref h_o), (1, .ref a_p1), (2, .int v2), (3, .int v3), (6, .int v6)]) hx hb dX0_weigh_99 hl (by decide) rfl (fun ls hl => ?_)
            obtain ⟨x_5, ex_5⟩ : ∃ y : Int32, y = v6 + 1 := ⟨_, rfl⟩
            replace hw := okN ex_5 hw
            refine lv_iinc (v := x_5) (lv' := [(6, .int x_5), (4, .long x_4), (0, .ref h_o), (1, .ref a_p1), (2, .int v2), (3, .int v3)]) hx hb dX0_weigh_101 hl (k := 5) rfl (by rw [ex_5]; rfl) (by decide) rfl (fun ls hl => ?_)
            clear ex_5
            refine lv_goto (tgt := 53) hx hb dX0_weigh_104 (by decide) ?_
            exact ih53 v2 v3 x_4 x_5 o_total o_sums seas_known _ _ hP hD hS _ (lv_sub hl [2, 3, 4, 5, 1, 0] rfl) hw
          intro v2 v3 v4 v6 o_total o_sums seas_known H locs hP hD hS ls hl hw
          replace hw : okP (f_X0_weigh_L53b n_p1 (f_X0_weigh_L7 n_p1 n7) (f_X0_weigh_L53 n_p1 (f_X0_weigh_L7 n_p1 n7) n53) v2 v3 v4 v6 o_total o_sums told_pieceCount told_dragCount told_settings told_currents told_warmths told_pieceCells told_pieceMonths told_pieceHighs told_pieceAges told_pieceNeeds told_dragCells told_dragEighths seas_known p1_arr) post := hw
          unfold f_X0_weigh_L53b at hw
          refine lv_iload hx hb dX0_weigh_53 (lv_at hl 5 rfl) ?_
          refine lv_aload_n hx hb dX0_weigh_55 rfl (lv_at hl 0 rfl) ?_
          refine va_get (D := (dC, dI)) (ci := 0) (v := .ref h_told) (C := RX0) (T := TX0) (N := 4) hx hb hts hi0 hown hK hP 0 rfl rfl 0 (by decide) hq3 (fun _ h9 => h9) rfl dX0_weigh_56 ?_
          refine va_get (D := (dC, dI)) (ci := 4) (v := .int told_pieceCount) (C := RX4) (T := TX4) (N := 16) hx hb hts hi4 hown hK hP 2 rfl rfl 14 (by decide) hq4 (fun _ h9 => h9) rfl dX0_weigh_59 ?_
          refine lv_icmp_ge (tgt := 107) hx hb dX0_weigh_62 (by decide) (fun c_6 => ?_) (fun c_6 => ?_)
          · replace hw := okT hw c_6
            clear c_6
            exact w107 v2 v3 v4 o_total o_sums seas_known _ _ hP hD hS _ (lv_sub hl [0, 1, 2, 3, 4] rfl) hw
          · replace hw := okF hw c_6
            clear c_6
            refine lv_lload hx hb dX0_weigh_65 (lv_at hl 4 rfl) ?_
            refine lv_lconst (v := 0) hx hb dX0_weigh_67 (by decide) ?_
            refine W.lcmp hx hb dX0_weigh_68 ?_
            refine lv_if_eq (tgt := 107) hx hb dX0_weigh_69 (by decide) (fun c_7 => ?_) (fun c_7 => ?_)
            · replace hw := okT hw c_7
              clear c_7
              exact w107 v2 v3 v4 o_total o_sums seas_known _ _ hP hD hS _ (lv_sub hl [0, 1, 2, 3, 4] rfl) hw
            · replace hw := okF hw c_7
              clear c_7
              refine lv_lload hx hb dX0_weigh_72 (lv_at hl 4 rfl) ?_
              refine lv_iload hx hb dX0_weigh_74 (lv_at hl 5 rfl) ?_
              refine lv_iload_n hx hb dX0_weigh_76 rfl (lv_at hl 2 rfl) ?_
              refine lv_bipush (v := 8) hx hb dX0_weigh_77 (by decide) ?_
              refine lv_isub hx hb dX0_weigh_79 ?_
              refine lv_icmp_ne (tgt := 87) hx hb dX0_weigh_80 (by decide) (fun c_8 => ?_) (fun c_8 => ?_)
              · replace hw := okF hw c_8
                clear c_8
                refine lv_aload_n hx hb dX0_weigh_87 rfl (lv_at hl 0 rfl) ?_
                refine va_get (D := (dC, dI)) (ci := 0) (v := .ref h_seas) (C := RX0) (T := TX0) (N := 4) hx hb hts hi0 hown hK hP 0 rfl rfl 1 (by decide) hq6 (fun _ h9 => h9) rfl dX0_weigh_88 ?_
                refine lv_iload hx hb dX0_weigh_91 (lv_at hl 5 rfl) ?_
                refine lv_iload_n hx hb dX0_weigh_93 rfl (lv_at hl 3 rfl) ?_
                have hPc := hP.sub (ws' := (W_X1_fit cyI cyJ cyO h_seas h_told a_seas_known a_told_settings a_told_howFar a_told_tones a_told_currents a_told_warmths a_told_depths a_told_fars a_told_pieceCells a_told_pieceMonths a_told_pieceHighs a_told_pieceAges a_told_pieceNeeds a_told_dragCells a_told_dragEighths seas_known told_pieceCount told_dragCount told_settings told_currents told_warmths told_pieceCells told_pieceMonths told_pieceHighs told_pieceAges told_pieceNeeds)) [13, 14, 2, 3, 4, 5, 6, 7, 8, 9, 10] rfl
                have hDc := hD.sub (ws' := (W_X1_fit cyI cyJ cyO h_seas h_told a_seas_known a_told_settings a_told_howFar a_told_tones a_told_currents a_told_warmths a_told_depths a_told_fars a_told_pieceCells a_told_pieceMonths a_told_pieceHighs a_told_pieceAges a_told_pieceNeeds a_told_dragCells a_told_dragEighths seas_known told_pieceCount told_dragCount told_settings told_currents told_warmths told_pieceCells told_pieceMonths told_pieceHighs told_pieceAges told_pieceNeeds)) [13, 14, 2, 3, 4, 5, 6, 7, 8, 9, 10] (by decide +kernel) rfl
                have hFc := va_free (wc := (W_X1_fit cyI cyJ cyO h_seas h_told a_seas_known a_told_settings a_told_howFar a_told_tones a_told_currents a_told_warmths a_told_depths a_told_fars a_told_pieceCells a_told_pieceMonths a_told_pieceHighs a_told_pieceAges a_told_pieceNeeds a_told_dragCells a_told_dragEighths seas_known told_pieceCount told_dragCount told_settings told_currents told_warmths told_pieceCells told_pieceMonths told_pieceHighs told_pieceAges told_pieceNeeds)) hD hS hA [13, 14, 2, 3, 4, 5, 6, 7, 8, 9, 10] rfl
                refine kc_i (wr := [(h_o, .inr (0, [.ref h_told, .ref h_seas, .ref a_o_sums, .long o_total])), (a_o_sums, .inl (cyJ, 100, .inr (.inl o_sums))), (a_told_dragCells, .inl (cyI, 4, .inl told_dragCells)), (a_told_dragEighths, .inl (cyI, 4, .inl told_dragEighths)), (a_p1, .inl (cyJ, n_p1, .inr (.inl p1_arr)))]) (va_runV (As := [.int v6, .int v3]) (rest := [.long v4]) ⟨hx, hb, hml, hown, hts⟩ (c_X1_fit l dC dI cyI cyJ cyO H.size tD tR tL tM h_seas h_told a_seas_known a_told_settings a_told_howFar a_told_tones a_told_currents a_told_warmths a_told_depths a_told_fars a_told_pieceCells a_told_pieceMonths a_told_pieceHighs a_told_pieceAges a_told_pieceNeeds a_told_dragCells a_told_dragEighths seas_known told_pieceCount told_dragCount told_settings told_currents told_warmths told_pieceCells told_pieceMonths told_pieceHighs told_pieceAges told_pieceNeeds v6 v3 _ (okb2 hw)) (cwV 2 hts (gdV (fun w h => List.mem_cons_of_mem _ h) q_549 q_513 q_514 q_4 q_515) rfl rfl rfl (by decide +kernel) ⟨Nat.le_of_ble_eq_true rfl, Nat.le_of_ble_eq_true rfl⟩) ⟨(kpre zX_ok hK hPc hDc hZ hS hFc).1, va_recv hK hP (ci := 1) (q0 := 13) rfl rfl, (kpre zX_ok hK hPc hDc hZ hS hFc).2⟩ rfl rfl hl.1 rfl (lv_room (Nat.le_of_ble_eq_true rfl)) dX0_weigh_94 ⟨Nat.le_of_ble_eq_true rfl, Nat.le_of_ble_eq_true rfl⟩) hP hD hS hFc [13, 14, 2, 3, 4, 5, 6, 7, 8, 9, 10] [0, 1, 11, 12, 15] rfl rfl (by decide +kernel) (by decide +kernel) (fun r_9 w_10 H locs hw hP hD hS => ?_)
                try dsimp only at hw
                have hP : va_P (dC, dI) vwCl (W_X0_weigh cyI cyJ cyO n_p1 h_o h_told h_seas a_o_sums a_told_settings a_told_howFar a_told_tones a_told_currents a_told_warmths a_told_depths a_told_fars a_told_pieceCells a_told_pieceMonths a_told_pieceHighs a_told_pieceAges a_told_pieceNeeds a_told_dragCells a_told_dragEighths a_seas_known a_p1 o_total o_sums told_pieceCount told_dragCount told_settings told_currents told_warmths told_pieceCells told_pieceMonths told_pieceHighs told_pieceAges told_pieceNeeds told_dragCells told_dragEighths w_10 p1_arr) H := hP.sub [0, 1, 7, 8, 9, 10, 11, 12, 13, 14, 15, 2, 3, 5, 6, 4] rfl
                have hD : va_D A (W_X0_weigh cyI cyJ cyO n_p1 h_o h_told h_seas a_o_sums a_told_settings a_told_howFar a_told_tones a_told_currents a_told_warmths a_told_depths a_told_fars a_told_pieceCells a_told_pieceMonths a_told_pieceHighs a_told_pieceAges a_told_pieceNeeds a_told_dragCells a_told_dragEighths a_seas_known a_p1 o_total o_sums told_pieceCount told_dragCount told_settings told_currents told_warmths told_pieceCells told_pieceMonths told_pieceHighs told_pieceAges told_pieceNeeds told_dragCells told_dragEighths w_10 p1_arr) := hD.sub [0, 1, 7, 8, 9, 10, 11, 12, 13, 14, 15, 2, 3, 5, 6, 4] (by decide +kernel) rfl
                clear hPc hDc hFc
                refine lv_i2l (v := r_9.toInt64) hx hb dX0_weigh_97 rfl ?_
                exact w98 v2 v3 v6 r_9.toInt64 v4 o_total o_sums w_10 _ _ hP hD hS _ (lv_sub hl [0, 1, 2, 3, 5] rfl) hw
              · replace hw := okT hw c_8
                clear c_8
                refine lv_lconst (v := 1) hx hb dX0_weigh_83 (by decide) ?_
                refine lv_goto (tgt := 98) hx hb dX0_weigh_84 (by decide) ?_
                exact w98 v2 v3 v6 1 v4 o_total o_sums seas_known _ _ hP hD hS _ (lv_sub hl [0, 1, 2, 3, 5] rfl) hw
      have w50 : ∀ (v2 : Int32) (v3 : Int32) (v4 : Int64) (o_total : Int64) (o_sums : Nat → Int64) (seas_known : Nat → Int32) (H : Heap) (locs : List Loc), va_P (dC, dI) vwCl (W_X0_weigh cyI cyJ cyO n_p1 h_o h_told h_seas a_o_sums a_told_settings a_told_howFar a_told_tones a_told_currents a_told_warmths a_told_depths a_told_fars a_told_pieceCells a_told_pieceMonths a_told_pieceHighs a_told_pieceAges a_told_pieceNeeds a_told_dragCells a_told_dragEighths a_seas_known a_p1 o_total o_sums told_pieceCount told_dragCount told_settings told_currents told_warmths told_pieceCells told_pieceMonths told_pieceHighs told_pieceAges told_pieceNeeds told_dragCells told_dragEighths seas_known p1_arr) H → va_D A (W_X0_weigh cyI cyJ cyO n_p1 h_o h_told h_seas a_o_sums a_told_settings a_told_howFar a_told_tones a_told_currents a_told_warmths a_told_depths a_told_fars a_told_pieceCells a_told_pieceMonths a_told_pieceHighs a_told_pieceAges a_told_pieceNeeds a_told_dragCells a_told_dragEighths a_seas_known a_p1 o_total o_sums told_pieceCount told_dragCount told_settings told_currents told_warmths told_pieceCells told_pieceMonths told_pieceHighs told_pieceAges told_pieceNeeds told_dragCells told_dragEighths seas_known p1_arr) → va_S A s.heap H locs → ∀ (ls : Array Slot), lv_has ls 7 [(0, .ref h_o), (1, .ref a_p1), (2, .int v2), (3, .int v3), (4, .long v4)] → okP (f_X0_weigh_B50 n_p1 (f_X0_weigh_L7 n_p1 n7) v2 v3 v4 o_total o_sums told_pieceCount told_dragCount told_settings told_currents told_warmths told_pieceCells told_pieceMonths told_pieceHighs told_pieceAges told_pieceNeeds told_dragCells told_dragEighths seas_known p1_arr) post → W p l e (headSpec wsX0_weigh rm_X0_weigh).room s m ([.ref h_o, .ref a_p1, .int x2] : List Value).toArray below meth c H locs 0 0 Q (F0 m 50 ls []) := by
        intro v2 v3 v4 o_total o_sums seas_known H locs hP hD hS ls hl hw
        unfold f_X0_weigh_B50 at hw
        refine lv_iconst (v := 0) hx hb dX0_weigh_50 (by decide) ?_
        refine lv_istore (lv' := [(6, .int 0), (0, .ref h_o), (1, .ref a_p1), (2, .int v2), (3, .int v3), (4, .long v4)]) hx hb dX0_weigh_51 hl (by decide) rfl (fun ls hl => ?_)
        exact w53 FU v2 v3 v4 0 o_total o_sums seas_known _ _ hP hD hS _ (lv_sub hl [1, 2, 3, 4, 5, 0] rfl) hw
      intro v2 v3 o_total o_sums seas_known H locs hP hD hS ls hl hw
      replace hw : okP (f_X0_weigh_L7b n_p1 (f_X0_weigh_L7 n_p1 n7) v2 v3 o_total o_sums told_pieceCount told_dragCount told_settings told_currents told_warmths told_pieceCells told_pieceMonths told_pieceHighs told_pieceAges told_pieceNeeds told_dragCells told_dragEighths seas_known p1_arr) post := hw
      unfold f_X0_weigh_L7b at hw
      refine lv_iload_n hx hb dX0_weigh_7 rfl (lv_at hl 3 rfl) ?_
      refine lv_bipush (v := 100) hx hb dX0_weigh_8 (by decide) ?_
      refine lv_icmp_ge (tgt := 132) hx hb dX0_weigh_10 (by decide) (fun c_11 => ?_) (fun c_11 => ?_)
      · replace hw := okT hw c_11
        clear c_11
        rw [hQ]
        exact W.vret hx hb hr (fun t ht hW => ⟨⟨(o_total, o_sums, seas_known), rfl, okS hw, by rw [ht]; exact hP, va_K.moved hW.alike hK, hD⟩, hS.F ht⟩) hS.2.2 dX0_weigh_132
      · replace hw := okF hw c_11
        clear c_11
        refine lv_iload_n hx hb dX0_weigh_13 rfl (lv_at hl 3 rfl) ?_
        refine lv_aload_n hx hb dX0_weigh_14 rfl (lv_at hl 1 rfl) ?_
        refine va_alen (v := Int32.ofNat n_p1) hx hb hK hP 15 1 rfl rfl rfl dX0_weigh_15 ?_
        refine lv_icmp_ge (tgt := 132) hx hb dX0_weigh_16 (by decide) (fun c_12 => ?_) (fun c_12 => ?_)
        · replace hw := okT hw c_12
          clear c_12
          rw [hQ]
          exact W.vret hx hb hr (fun t ht hW => ⟨⟨(o_total, o_sums, seas_known), rfl, okS hw, by rw [ht]; exact hP, va_K.moved hW.alike hK, hD⟩, hS.F ht⟩) hS.2.2 dX0_weigh_132
        · replace hw := okF hw c_12
          clear c_12
          refine lv_aload_n hx hb dX0_weigh_19 rfl (lv_at hl 1 rfl) ?_
          refine lv_iload_n hx hb dX0_weigh_20 rfl (lv_at hl 3 rfl) ?_
          obtain ⟨h_13, hw⟩ := okC hw
          refine va_lald (i := v3) hx hb hK hP 15 1 rfl rfl h_13 dX0_weigh_21 ?_
          refine lv_topl (fun x_14 ex_14 => ?_)
          replace hw := okN ex_14 hw
          clear ex_14
          refine lv_lstore (lv' := [(4, .long x_14), (0, .ref h_o), (1, .ref a_p1), (2, .int v2), (3, .int v3)]) hx hb dX0_weigh_22 hl (by decide) rfl (fun ls hl => ?_)
          refine lv_lload hx hb dX0_weigh_24 (lv_at hl 0 rfl) ?_
          refine lv_lconst (v := 0) hx hb dX0_weigh_26 (by decide) ?_
          refine W.lcmp hx hb dX0_weigh_27 ?_
          refine lv_if_eq (tgt := 50) hx hb dX0_weigh_28 (by decide) (fun c_15 => ?_) (fun c_15 => ?_)
          · replace hw := okT hw c_15
            clear c_15
            exact w50 v2 v3 x_14 o_total o_sums seas_known _ _ hP hD hS _ (lv_sub hl [1, 2, 3, 4, 0] rfl) hw
          · replace hw := okF hw c_15
            clear c_15
            refine lv_iload_n hx hb dX0_weigh_31 rfl (lv_at hl 3 rfl) ?_
            refine lv_bipush (v := 12) hx hb dX0_weigh_32 (by decide) ?_
            refine lv_icmp_eq (tgt := 50) hx hb dX0_weigh_34 (by decide) (fun c_16 => ?_) (fun c_16 => ?_)
            · replace hw := okT hw c_16
              clear c_16
              exact w50 v2 v3 x_14 o_total o_sums seas_known _ _ hP hD hS _ (lv_sub hl [1, 2, 3, 4, 0] rfl) hw
            · replace hw := okF hw c_16
              clear c_16
              refine lv_lload hx hb dX0_weigh_37 (lv_at hl 0 rfl) ?_
              refine lv_aload_n hx hb dX0_weigh_39 rfl (lv_at hl 1 rfl) ?_
              refine va_get (D := (dC, dI)) (ci := 0) (v := .ref h_told) (C := RX0) (T := TX0) (N := 4) hx hb hts hi0 hown hK hP 0 rfl rfl 0 (by decide) hq3 (fun _ h9 => h9) rfl dX0_weigh_40 ?_
              refine lv_iload_n hx hb dX0_weigh_43 rfl (lv_at hl 4 rfl) ?_
              have hPc := hP.sub (ws' := (W_X4_missed cyI cyJ cyO h_told a_told_settings a_told_howFar a_told_tones a_told_currents a_told_warmths a_told_depths a_told_fars a_told_pieceCells a_told_pieceMonths a_told_pieceHighs a_told_pieceAges a_told_pieceNeeds a_told_dragCells a_told_dragEighths told_pieceCount told_dragCount told_dragCells told_dragEighths)) [2, 11, 12] rfl
              have hDc := hD.sub (ws' := (W_X4_missed cyI cyJ cyO h_told a_told_settings a_told_howFar a_told_tones a_told_currents a_told_warmths a_told_depths a_told_fars a_told_pieceCells a_told_pieceMonths a_told_pieceHighs a_told_pieceAges a_told_pieceNeeds a_told_dragCells a_told_dragEighths told_pieceCount told_dragCount told_dragCells told_dragEighths)) [2, 11, 12] (by decide +kernel) rfl
              have hFc := va_free (wc := (W_X4_missed cyI cyJ cyO h_told a_told_settings a_told_howFar a_told_tones a_told_currents a_told_warmths a_told_depths a_told_fars a_told_pieceCells a_told_pieceMonths a_told_pieceHighs a_told_pieceAges a_told_pieceNeeds a_told_dragCells a_told_dragEighths told_pieceCount told_dragCount told_dragCells told_dragEighths)) hD hS hA [2, 11, 12] rfl
              refine kc_l (wr := [(h_o, .inr (0, [.ref h_told, .ref h_seas, .ref a_o_sums, .long o_total])), (a_o_sums, .inl (cyJ, 100, .inr (.inl o_sums))), (a_told_settings, .inl (cyI, 8, .inl told_settings)), (a_told_currents, .inl (cyI, 200, .inl told_currents)), (a_told_warmths, .inl (cyI, 200, .inl told_warmths)), (a_told_pieceCells, .inl (cyI, 4, .inl told_pieceCells)), (a_told_pieceMonths, .inl (cyI, 4, .inl told_pieceMonths)), (a_told_pieceHighs, .inl (cyI, 4, .inl told_pieceHighs)), (a_told_pieceAges, .inl (cyI, 4, .inl told_pieceAges)), (a_told_pieceNeeds, .inl (cyI, 4, .inl told_pieceNeeds)), (h_seas, .inr (1, [.ref h_told, .ref a_seas_known])), (a_seas_known, .inl (cyI, 400, .inl seas_known)), (a_p1, .inl (cyJ, n_p1, .inr (.inl p1_arr)))]) (va_runV (As := [.int v3]) (rest := [.long x_14]) ⟨hx, hb, hml, hown, hts⟩ (c_X4_missed l dC dI cyI cyJ cyO H.size h_told a_told_settings a_told_howFar a_told_tones a_told_currents a_told_warmths a_told_depths a_told_fars a_told_pieceCells a_told_pieceMonths a_told_pieceHighs a_told_pieceAges a_told_pieceNeeds a_told_dragCells a_told_dragEighths told_pieceCount told_dragCount told_dragCells told_dragEighths v3 _ (okb1 hw)) (cwV 1 hts (gdV (fun w h => List.mem_cons_of_mem _ h) q_544 q_545 q_546 q_2 q_547) rfl rfl rfl (by decide +kernel) ⟨Nat.le_of_ble_eq_true rfl, Nat.le_of_ble_eq_true rfl⟩) ⟨(kpre zN_ok hK hPc hDc trivial hS hFc).1, va_recv hK hP (ci := 4) (q0 := 2) rfl rfl, (kpre zN_ok hK hPc hDc trivial hS hFc).2⟩ rfl rfl hl.1 rfl (lv_room (Nat.le_of_ble_eq_true rfl)) dX0_weigh_44 ⟨Nat.le_of_ble_eq_true rfl, Nat.le_of_ble_eq_true rfl⟩) hP hD hS hFc [2, 11, 12] [0, 1, 3, 4, 5, 6, 7, 8, 9, 10, 13, 14, 15] rfl rfl (by decide +kernel) (by decide +kernel) (fun r_17 u H locs hw hP hD hS => ?_)
              try dsimp only at hw
              have hP : va_P (dC, dI) vwCl (W_X0_weigh cyI cyJ cyO n_p1 h_o h_told h_seas a_o_sums a_told_settings a_told_howFar a_told_tones a_told_currents a_told_warmths a_told_depths a_told_fars a_told_pieceCells a_told_pieceMonths a_told_pieceHighs a_told_pieceAges a_told_pieceNeeds a_told_dragCells a_told_dragEighths a_seas_known a_p1 o_total o_sums told_pieceCount told_dragCount told_settings told_currents told_warmths told_pieceCells told_pieceMonths told_pieceHighs told_pieceAges told_pieceNeeds told_dragCells told_dragEighths seas_known p1_arr) H := hP.sub [0, 1, 13, 2, 3, 4, 5, 6, 7, 8, 9, 14, 15, 10, 11, 12] rfl
              have hD : va_D A (W_X0_weigh cyI cyJ cyO n_p1 h_o h_told h_seas a_o_sums a_told_settings a_told_howFar a_told_tones a_told_currents a_told_warmths a_told_depths a_told_fars a_told_pieceCells a_told_pieceMonths a_told_pieceHighs a_told_pieceAges a_told_pieceNeeds a_told_dragCells a_told_dragEighths a_seas_known a_p1 o_total o_sums told_pieceCount told_dragCount told_settings told_currents told_warmths told_pieceCells told_pieceMonths told_pieceHighs told_pieceAges told_pieceNeeds told_dragCells told_dragEighths seas_known p1_arr) := hD.sub [0, 1, 13, 2, 3, 4, 5, 6, 7, 8, 9, 14, 15, 10, 11, 12] (by decide +kernel) rfl
              clear hPc hDc hFc
              refine lv_lmul hx hb dX0_weigh_47 ?_
              refine lv_topl (fun x_18 ex_18 => ?_)
              replace hw := okN ex_18 hw
              clear ex_18
              refine lv_lstore (lv' := [(4, .long x_18), (0, .ref h_o), (1, .ref a_p1), (2, .int v2), (3, .int v3)]) hx hb dX0_weigh_48 hl (by decide) rfl (fun ls hl => ?_)
              exact w50 v2 v3 x_18 o_total o_sums seas_known _ _ hP hD hS _ (lv_sub hl [1, 2, 3, 4, 0] rfl) hw
  unfold f_X0_weigh at hw
  have hP : va_P (dC, dI) vwCl (W_X0_weigh cyI cyJ cyO n_p1 h_o h_told h_seas a_o_sums a_told_settings a_told_howFar a_told_tones a_told_currents a_told_warmths a_told_depths a_told_fars a_told_pieceCells a_told_pieceMonths a_told_pieceHighs a_told_pieceAges a_told_pieceNeeds a_told_dragCells a_told_dragEighths a_seas_known a_p1 o_total o_sums told_pieceCount told_dragCount told_settings told_currents told_warmths told_pieceCells told_pieceMonths told_pieceHighs told_pieceAges told_pieceNeeds told_dragCells told_dragEighths seas_known p1_arr) s.heap := hP
  obtain ⟨H, hH⟩ : ∃ H, H = s.heap := ⟨_, rfl⟩
  obtain ⟨locs, hlo⟩ : ∃ x : List Loc, x = [] := ⟨_, rfl⟩
  have hP : va_P (dC, dI) vwCl (W_X0_weigh cyI cyJ cyO n_p1 h_o h_told h_seas a_o_sums a_told_settings a_told_howFar a_told_tones a_told_currents a_told_warmths a_told_depths a_told_fars a_told_pieceCells a_told_pieceMonths a_told_pieceHighs a_told_pieceAges a_told_pieceNeeds a_told_dragCells a_told_dragEighths a_seas_known a_p1 o_total o_sums told_pieceCount told_dragCount told_settings told_currents told_warmths told_pieceCells told_pieceMonths told_pieceHighs told_pieceAges told_pieceNeeds told_dragCells told_dragEighths seas_known p1_arr) H := by rw [hH]; exact hP
  have hS : va_S A s.heap H locs := by rw [hH, hlo]; exact hS
  refine kH hH hlo ?_
  clear hH hlo
  refine lv_aload_n hx hb dX0_weigh_0 rfl (lv_at hl 0 rfl) ?_
  refine lv_lconst (v := 0) hx hb dX0_weigh_1 (by decide) ?_
  refine va_put (D := (dC, dI)) (ci := 0) (v := .long 0) (ty := .long) (C := RX0) (T := TX0) (N := 4) hx hb hts hi0 tyX0 tyX0_ok nmX0 hown hK hP hD hS 0 rfl rfl 3 (by decide) hq2 (fun _ h9 => h9) rfl (by decide +kernel) rfl rfl (Nat.le_of_ble_eq_true rfl) dX0_weigh_2 (fun H locs hP hD hS => ?_)
  have hP : va_P (dC, dI) vwCl (W_X0_weigh cyI cyJ cyO n_p1 h_o h_told h_seas a_o_sums a_told_settings a_told_howFar a_told_tones a_told_currents a_told_warmths a_told_depths a_told_fars a_told_pieceCells a_told_pieceMonths a_told_pieceHighs a_told_pieceAges a_told_pieceNeeds a_told_dragCells a_told_dragEighths a_seas_known a_p1 0 o_sums told_pieceCount told_dragCount told_settings told_currents told_warmths told_pieceCells told_pieceMonths told_pieceHighs told_pieceAges told_pieceNeeds told_dragCells told_dragEighths seas_known p1_arr) H := hP
  have hD : va_D A (W_X0_weigh cyI cyJ cyO n_p1 h_o h_told h_seas a_o_sums a_told_settings a_told_howFar a_told_tones a_told_currents a_told_warmths a_told_depths a_told_fars a_told_pieceCells a_told_pieceMonths a_told_pieceHighs a_told_pieceAges a_told_pieceNeeds a_told_dragCells a_told_dragEighths a_seas_known a_p1 0 o_sums told_pieceCount told_dragCount told_settings told_currents told_warmths told_pieceCells told_pieceMonths told_pieceHighs told_pieceAges told_pieceNeeds told_dragCells told_dragEighths seas_known p1_arr) := hD
  refine lv_iconst (v := 0) hx hb dX0_weigh_5 (by decide) ?_
  refine lv_istore_n (lv' := [(3, .int 0), (0, .ref h_o), (1, .ref a_p1), (2, .int x2)]) hx hb dX0_weigh_6 rfl hl (by decide) rfl (fun ls hl => ?_)
  exact w7 FU x2 0 0 o_sums seas_known _ _ hP hD hS _ (lv_sub hl [1, 2, 3, 0] rfl) hw
/-! ===== X0_thousandths ===== -/
theorem dX0_thousandths_0 : decode cX0_thousandths 0 = .ok (.aload_n 0, 1) := by decide +kernel
theorem dX0_thousandths_1 : decode cX0_thousandths 1 = .ok (.getfield 15, 3) := by decide +kernel
theorem dX0_thousandths_4 : decode cX0_thousandths 4 = .ok (.lconst 0, 1) := by decide +kernel
theorem dX0_thousandths_5 : decode cX0_thousandths 5 = .ok (.lcmp, 1) := by decide +kernel
theorem dX0_thousandths_6 : decode cX0_thousandths 6 = .ok (.ifCond .ne 7, 3) := by decide +kernel
theorem dX0_thousandths_9 : decode cX0_thousandths 9 = .ok (.iconst 0, 1) := by decide +kernel
theorem dX0_thousandths_10 : decode cX0_thousandths 10 = .ok (.goto 19, 3) := by decide +kernel
theorem dX0_thousandths_13 : decode cX0_thousandths 13 = .ok (.ldc2_w 52, 3) := by decide +kernel
theorem dX0_thousandths_16 : decode cX0_thousandths 16 = .ok (.aload_n 0, 1) := by decide +kernel
theorem dX0_thousandths_17 : decode cX0_thousandths 17 = .ok (.getfield 9, 3) := by decide +kernel
theorem dX0_thousandths_20 : decode cX0_thousandths 20 = .ok (.iload_n 1, 1) := by decide +kernel
theorem dX0_thousandths_21 : decode cX0_thousandths 21 = .ok (.laload, 1) := by decide +kernel
theorem dX0_thousandths_22 : decode cX0_thousandths 22 = .ok (.lmul, 1) := by decide +kernel
theorem dX0_thousandths_23 : decode cX0_thousandths 23 = .ok (.aload_n 0, 1) := by decide +kernel
theorem dX0_thousandths_24 : decode cX0_thousandths 24 = .ok (.getfield 15, 3) := by decide +kernel
theorem dX0_thousandths_27 : decode cX0_thousandths 27 = .ok (.ldiv, 1) := by decide +kernel
theorem dX0_thousandths_28 : decode cX0_thousandths 28 = .ok (.l2i, 1) := by decide +kernel
theorem dX0_thousandths_29 : decode cX0_thousandths 29 = .ok (.ireturn, 1) := by decide +kernel
abbrev W_X0_thousandths (cyI cyJ cyO : ClassId) (h_o h_told h_seas a_o_sums : Nat) (o_total : Int64) (o_sums : Nat → Int64) : va_W := [(h_o, .inr (0, [.ref h_told, .ref h_seas, .ref a_o_sums, .long o_total])), (a_o_sums, .inl (cyJ, 100, .inr (.inl o_sums)))]
def f_X0_thousandths (x1 : Int32) (o_total : Int64) (o_sums : Nat → Int64) : Option (Int32) :=
  if (lg_cmp o_total 0) = 0 then
    some 0
  else
    chk (¬ (x1 < 0 ∨ 100 ≤ x1.toNatClampNeg)) <|
    chk (¬ o_total = 0) <|
    some (((1000 * (o_sums x1.toNatClampNeg)) / o_total).toInt32)
abbrev rm_X0_thousandths : Room := { frames := 0, cells := 0, slots := 0, locals := 0 }
set_option maxRecDepth 100000 in
set_option maxHeartbeats 4000000 in
theorem c_X0_thousandths (l : Launch) (dC : Nat → ClassId) (dI : Nat → Nat → Nat) (cyI cyJ cyO : ClassId) (sz : Nat) (h_o h_told h_seas a_o_sums : Nat) (o_total : Int64) (o_sums : Nat → Int64) (x1 : Int32) (post : Int32 → Prop) (hf : okP (f_X0_thousandths x1 o_total o_sums) post) : Ci l (dC, dI) (tyL cyI cyJ cyO) yX0_thousandths wsX0_thousandths rm_X0_thousandths [.ref h_o, .int x1] sz (W_X0_thousandths cyI cyJ cyO h_o h_told h_seas a_o_sums o_total o_sums) zN (fun r (_ : Unit) => post r) (fun _ => (W_X0_thousandths cyI cyJ cyO h_o h_told h_seas a_o_sums o_total o_sums)) := by
  refine Met.ofW (cc := cX0_thousandths) (maxL := 2) (ret := (some .int)) (by decide) rfl ?_
  intro p e s m args below meth c s₁ B hml hv
  obtain ⟨rfl, hsz, hP, hK, hD0, hZ⟩ := hv
  have hx := B.exec
  have hb := B.bytes
  have hr := B.returns
  have hts := atoms_spec (ws := wsX0_thousandths) B.pre
  have hown : s.vm.findClass RX0 = some m.cls := findClass_of_methodNamed B.named
  have hlocks := B.notSynchronized
  subst hsz
  have hD := hD0.self (sz := s.heap.size)
  generalize hAe : va_A (W_X0_thousandths cyI cyJ cyO h_o h_told h_seas a_o_sums o_total o_sums) s.heap.size = A at hD hZ ⊢
  have hA : ∀ q : Nat, s.heap.size ≤ q → A q := fun q h => by rw [← hAe]; exact Or.inr h
  clear hAe hD0
  have hS : va_S A s.heap s.heap [] := va_S.rf
  have hl := lv_entry ([.ref h_o, .int x1]) (n := 2) (Nat.le_of_ble_eq_true rfl)
  rw [lg_entry_eq]
  generalize (lg_sl ([.ref h_o, .int x1]) ++ List.replicate (2 - (lg_sl ([.ref h_o, .int x1])).length) Slot.unset).toArray = ls at hl ⊢
  have hl : lv_has ls 2 [(0, .ref h_o), (1, .int x1)] := hl
  refine kW (fun Q hQ => ?_)
  have hq0 := hts _ (List.mem_cons_of_mem _ q_214)
  have hi0 : ∀ w ∈ u_ws RX0 TX0 4, w ∈ wsX0_thousandths := fun w h => List.mem_cons_of_mem _ (inX0 w h)
  have hq2 := hts _ (List.mem_cons_of_mem _ q_591)
  have hq3 := hts _ (List.mem_cons_of_mem _ q_212)
  have hw := hf
  unfold f_X0_thousandths at hw
  have hP : va_P (dC, dI) vwCl (W_X0_thousandths cyI cyJ cyO h_o h_told h_seas a_o_sums o_total o_sums) s.heap := hP
  obtain ⟨H, hH⟩ : ∃ H, H = s.heap := ⟨_, rfl⟩
  obtain ⟨locs, hlo⟩ : ∃ x : List Loc, x = [] := ⟨_, rfl⟩
  have hP : va_P (dC, dI) vwCl (W_X0_thousandths cyI cyJ cyO h_o h_told h_seas a_o_sums o_total o_sums) H := by rw [hH]; exact hP
  have hS : va_S A s.heap H locs := by rw [hH, hlo]; exact hS
  refine kH hH hlo ?_
  clear hH hlo
  refine lv_aload_n hx hb dX0_thousandths_0 rfl (lv_at hl 0 rfl) ?_
  refine va_get (D := (dC, dI)) (ci := 0) (v := .long o_total) (C := RX0) (T := TX0) (N := 4) hx hb hts hi0 hown hK hP 0 rfl rfl 3 (by decide) hq0 (fun _ h9 => h9) rfl dX0_thousandths_1 ?_
  refine lv_lconst (v := 0) hx hb dX0_thousandths_4 (by decide) ?_
  refine W.lcmp hx hb dX0_thousandths_5 ?_
  refine lv_if_ne (tgt := 13) hx hb dX0_thousandths_6 (by decide) (fun c_1 => ?_) (fun c_1 => ?_)
  · replace hw := okF hw c_1
    clear c_1
    refine lv_ldc2 (v := 1000) hx hb hown hq2 dX0_thousandths_13 ?_
    refine lv_aload_n hx hb dX0_thousandths_16 rfl (lv_at hl 0 rfl) ?_
    refine va_get (D := (dC, dI)) (ci := 0) (v := .ref a_o_sums) (C := RX0) (T := TX0) (N := 4) hx hb hts hi0 hown hK hP 0 rfl rfl 2 (by decide) hq3 (fun _ h9 => h9) rfl dX0_thousandths_17 ?_
    refine lv_iload_n hx hb dX0_thousandths_20 rfl (lv_at hl 1 rfl) ?_
    obtain ⟨h_2, hw⟩ := okC hw
    refine va_lald (i := x1) hx hb hK hP 1 1 rfl rfl h_2 dX0_thousandths_21 ?_
    refine lv_lmul hx hb dX0_thousandths_22 ?_
    refine lv_aload_n hx hb dX0_thousandths_23 rfl (lv_at hl 0 rfl) ?_
    refine va_get (D := (dC, dI)) (ci := 0) (v := .long o_total) (C := RX0) (T := TX0) (N := 4) hx hb hts hi0 hown hK hP 0 rfl rfl 3 (by decide) hq0 (fun _ h9 => h9) rfl dX0_thousandths_24 ?_
    obtain ⟨h_3, hw⟩ := okC hw
    refine lv_ldiv hx hb dX0_thousandths_27 h_3 ?_
    refine lv_l2i (v := ((1000 * (o_sums x1.toNatClampNeg)) / o_total).toInt32) hx hb dX0_thousandths_28 rfl ?_
    rw [hQ]
    exact W.iret (v := ((1000 * (o_sums x1.toNatClampNeg)) / o_total).toInt32) hx hb hr (fun t ht hW => ⟨⟨((1000 * (o_sums x1.toNatClampNeg)) / o_total).toInt32, (), rfl, okS hw, by rw [ht]; exact hP, va_K.moved hW.alike hK, hD⟩, hS.F ht⟩) hS.2.2 dX0_thousandths_29
  · replace hw := okT hw c_1
    clear c_1
    refine lv_iconst (v := 0) hx hb dX0_thousandths_9 (by decide) ?_
    refine lv_goto (tgt := 29) hx hb dX0_thousandths_10 (by decide) ?_
    rw [hQ]
    exact W.iret (v := 0) hx hb hr (fun t ht hW => ⟨⟨0, (), rfl, okS hw, by rw [ht]; exact hP, va_K.moved hW.alike hK, hD⟩, hS.F ht⟩) hS.2.2 dX0_thousandths_29
/-! ===== X0_apart ===== -/
theorem dX0_apart_0 : decode cX0_apart 0 = .ok (.aload_n 0, 1) := by decide +kernel
theorem dX0_apart_1 : decode cX0_apart 1 = .ok (.getfield 15, 3) := by decide +kernel
theorem dX0_apart_4 : decode cX0_apart 4 = .ok (.lconst 0, 1) := by decide +kernel
theorem dX0_apart_5 : decode cX0_apart 5 = .ok (.lcmp, 1) := by decide +kernel
theorem dX0_apart_6 : decode cX0_apart 6 = .ok (.ifCond .eq 12, 3) := by decide +kernel
theorem dX0_apart_9 : decode cX0_apart 9 = .ok (.aload_n 1, 1) := by decide +kernel
theorem dX0_apart_10 : decode cX0_apart 10 = .ok (.getfield 15, 3) := by decide +kernel
theorem dX0_apart_13 : decode cX0_apart 13 = .ok (.lconst 0, 1) := by decide +kernel
theorem dX0_apart_14 : decode cX0_apart 14 = .ok (.lcmp, 1) := by decide +kernel
theorem dX0_apart_15 : decode cX0_apart 15 = .ok (.ifCond .ne 23, 3) := by decide +kernel
theorem dX0_apart_18 : decode cX0_apart 18 = .ok (.aload_n 0, 1) := by decide +kernel
theorem dX0_apart_19 : decode cX0_apart 19 = .ok (.getfield 15, 3) := by decide +kernel
theorem dX0_apart_22 : decode cX0_apart 22 = .ok (.aload_n 1, 1) := by decide +kernel
theorem dX0_apart_23 : decode cX0_apart 23 = .ok (.getfield 15, 3) := by decide +kernel
theorem dX0_apart_26 : decode cX0_apart 26 = .ok (.lcmp, 1) := by decide +kernel
theorem dX0_apart_27 : decode cX0_apart 27 = .ok (.ifCond .ne 7, 3) := by decide +kernel
theorem dX0_apart_30 : decode cX0_apart 30 = .ok (.iconst 0, 1) := by decide +kernel
theorem dX0_apart_31 : decode cX0_apart 31 = .ok (.goto 6, 3) := by decide +kernel
theorem dX0_apart_34 : decode cX0_apart 34 = .ok (.sipush 1000, 3) := by decide +kernel
theorem dX0_apart_37 : decode cX0_apart 37 = .ok (.ireturn, 1) := by decide +kernel
theorem dX0_apart_38 : decode cX0_apart 38 = .ok (.iconst 0, 1) := by decide +kernel
theorem dX0_apart_39 : decode cX0_apart 39 = .ok (.istore_n 2, 1) := by decide +kernel
theorem dX0_apart_40 : decode cX0_apart 40 = .ok (.iconst 0, 1) := by decide +kernel
theorem dX0_apart_41 : decode cX0_apart 41 = .ok (.istore_n 3, 1) := by decide +kernel
theorem dX0_apart_42 : decode cX0_apart 42 = .ok (.iload_n 3, 1) := by decide +kernel
theorem dX0_apart_43 : decode cX0_apart 43 = .ok (.bipush 100, 2) := by decide +kernel
theorem dX0_apart_45 : decode cX0_apart 45 = .ok (.if_icmp .ge 26, 3) := by decide +kernel
theorem dX0_apart_48 : decode cX0_apart 48 = .ok (.iload_n 2, 1) := by decide +kernel
theorem dX0_apart_49 : decode cX0_apart 49 = .ok (.aload_n 0, 1) := by decide +kernel
theorem dX0_apart_50 : decode cX0_apart 50 = .ok (.iload_n 3, 1) := by decide +kernel
theorem dX0_apart_51 : decode cX0_apart 51 = .ok (.invokevirtual 43, 3) := by decide +kernel
theorem dX0_apart_54 : decode cX0_apart 54 = .ok (.aload_n 1, 1) := by decide +kernel
theorem dX0_apart_55 : decode cX0_apart 55 = .ok (.iload_n 3, 1) := by decide +kernel
theorem dX0_apart_56 : decode cX0_apart 56 = .ok (.invokevirtual 43, 3) := by decide +kernel
theorem dX0_apart_59 : decode cX0_apart 59 = .ok (.isub, 1) := by decide +kernel
theorem dX0_apart_60 : decode cX0_apart 60 = .ok (.invokestatic 47, 3) := by decide +kernel
theorem dX0_apart_63 : decode cX0_apart 63 = .ok (.iadd, 1) := by decide +kernel
theorem dX0_apart_64 : decode cX0_apart 64 = .ok (.istore_n 2, 1) := by decide +kernel
theorem dX0_apart_65 : decode cX0_apart 65 = .ok (.iinc 3 1, 3) := by decide +kernel
theorem dX0_apart_68 : decode cX0_apart 68 = .ok (.goto (-26), 3) := by decide +kernel
theorem dX0_apart_71 : decode cX0_apart 71 = .ok (.iload_n 2, 1) := by decide +kernel
theorem dX0_apart_72 : decode cX0_apart 72 = .ok (.ireturn, 1) := by decide +kernel
abbrev W_X0_apart (cyI cyJ cyO : ClassId) (h_o h_p1 h_told h_seas a_o_sums h_p1_told h_p1_seas a_p1_sums : Nat) (o_total : Int64) (o_sums : Nat → Int64) (p1_total : Int64) (p1_sums : Nat → Int64) : va_W := [(h_o, .inr (0, [.ref h_told, .ref h_seas, .ref a_o_sums, .long o_total])), (a_o_sums, .inl (cyJ, 100, .inr (.inl o_sums))), (h_p1, .inr (0, [.ref h_p1_told, .ref h_p1_seas, .ref a_p1_sums, .long p1_total])), (a_p1_sums, .inl (cyJ, 100, .inr (.inl p1_sums)))]
def f_X0_apart_L42b (k42 : Int32 → Int32 → Int64 → (Nat → Int64) → Int64 → (Nat → Int64) → Option (Int32)) (v2 : Int32) (v3 : Int32) (o_total : Int64) (o_sums : Nat → Int64) (p1_total : Int64) (p1_sums : Nat → Int64) : Option (Int32) :=
  if 100 ≤ v3 then
    some v2
  else
    bd1 (f_X0_thousandths v3 o_total o_sums) fun r_1 =>
    bd1 (f_X0_thousandths v3 p1_total p1_sums) fun r_2 =>
    nm (v2 + (if 0 ≤ (r_1 - r_2) then (r_1 - r_2) else 0 - (r_1 - r_2))) fun x_3 =>
    nm (v3 + 1) fun x_4 =>
    k42 x_3 x_4 o_total o_sums p1_total p1_sums
def f_X0_apart_L42 : Nat → Int32 → Int32 → Int64 → (Nat → Int64) → Int64 → (Nat → Int64) → Option (Int32)
  | 0 => fun _ _ _ _ _ _ => none
  | n + 1 => f_X0_apart_L42b (f_X0_apart_L42 n)
def f_X0_apart_B18 (o_total : Int64) (o_sums : Nat → Int64) (p1_total : Int64) (p1_sums : Nat → Int64) : Option (Int32) :=
  if (lg_cmp o_total p1_total) = 0 then
    some 0
  else
    some 1000
def f_X0_apart (o_total : Int64) (o_sums : Nat → Int64) (p1_total : Int64) (p1_sums : Nat → Int64) : Option (Int32) :=
  if (lg_cmp o_total 0) = 0 then
    f_X0_apart_B18 o_total o_sums p1_total p1_sums
  else
    if (lg_cmp p1_total 0) = 0 then
      f_X0_apart_B18 o_total o_sums p1_total p1_sums
    else
      f_X0_apart_L42 FU 0 0 o_total o_sums p1_total p1_sums
abbrev rm_X0_apart : Room := { frames := 1, cells := 0, slots := 0, locals := 21 }
set_option maxRecDepth 100000 in
set_option maxHeartbeats 4000000 in
theorem c_X0_apart (l : Launch) (dC : Nat → ClassId) (dI : Nat → Nat → Nat) (cyI cyJ cyO : ClassId) (sz : Nat) (h_o h_p1 h_told h_seas a_o_sums h_p1_told h_p1_seas a_p1_sums : Nat) (o_total : Int64) (o_sums : Nat → Int64) (p1_total : Int64) (p1_sums : Nat → Int64) (post : Int32 → Prop) (hf : okP (f_X0_apart o_total o_sums p1_total p1_sums) post) : Ci l (dC, dI) (tyL cyI cyJ cyO) yX0_apart wsX0_apart rm_X0_apart [.ref h_o, .ref h_p1] sz (W_X0_apart cyI cyJ cyO h_o h_p1 h_told h_seas a_o_sums h_p1_told h_p1_seas a_p1_sums o_total o_sums p1_total p1_sums) zN (fun r (_ : Unit) => post r) (fun _ => (W_X0_apart cyI cyJ cyO h_o h_p1 h_told h_seas a_o_sums h_p1_told h_p1_seas a_p1_sums o_total o_sums p1_total p1_sums)) := by
  refine Met.ofW (cc := cX0_apart) (maxL := 4) (ret := (some .int)) (by decide) rfl ?_
  intro p e s m args below meth c s₁ B hml hv
  obtain ⟨rfl, hsz, hP, hK, hD0, hZ⟩ := hv
  have hx := B.exec
  have hb := B.bytes
  have hr := B.returns
  have hts := atoms_spec (ws := wsX0_apart) B.pre
  have hown : s.vm.findClass RX0 = some m.cls := findClass_of_methodNamed B.named
  have hlocks := B.notSynchronized
  subst hsz
  have hD := hD0.self (sz := s.heap.size)
  generalize hAe : va_A (W_X0_apart cyI cyJ cyO h_o h_p1 h_told h_seas a_o_sums h_p1_told h_p1_seas a_p1_sums o_total o_sums p1_total p1_sums) s.heap.size = A at hD hZ ⊢
  have hA : ∀ q : Nat, s.heap.size ≤ q → A q := fun q h => by rw [← hAe]; exact Or.inr h
  clear hAe hD0
  have hS : va_S A s.heap s.heap [] := va_S.rf
  have hl := lv_entry ([.ref h_o, .ref h_p1]) (n := 4) (Nat.le_of_ble_eq_true rfl)
  rw [lg_entry_eq]
  generalize (lg_sl ([.ref h_o, .ref h_p1]) ++ List.replicate (4 - (lg_sl ([.ref h_o, .ref h_p1])).length) Slot.unset).toArray = ls at hl ⊢
  have hl : lv_has ls 4 [(0, .ref h_o), (1, .ref h_p1)] := hl
  refine kW (fun Q hQ => ?_)
  have hq0 := hts _ (List.mem_cons_of_mem _ q_592)
  have hq1 := hts _ (List.mem_cons_of_mem _ q_433)
  have hq2 := hts _ (List.mem_cons_of_mem _ q_9)
  have hq3 := hts _ (List.mem_cons_of_mem _ q_434)
  have hq4 := hts _ (List.mem_cons_of_mem _ q_214)
  have hi0 : ∀ w ∈ u_ws RX0 TX0 4, w ∈ wsX0_apart := fun w h => List.mem_cons_of_mem _ (inX0 w h)
  have hw := hf
  have w42 : ∀ (n : Nat), ∀ (v2 : Int32) (v3 : Int32) (H : Heap) (locs : List Loc), va_P (dC, dI) vwCl (W_X0_apart cyI cyJ cyO h_o h_p1 h_told h_seas a_o_sums h_p1_told h_p1_seas a_p1_sums o_total o_sums p1_total p1_sums) H → va_D A (W_X0_apart cyI cyJ cyO h_o h_p1 h_told h_seas a_o_sums h_p1_told h_p1_seas a_p1_sums o_total o_sums p1_total p1_sums) → va_S A s.heap H locs → ∀ (ls : Array Slot), lv_has ls 4 [(0, .ref h_o), (1, .ref h_p1), (2, .int v2), (3, .int v3)] → okP (f_X0_apart_L42 n v2 v3 o_total o_sums p1_total p1_sums) post → W p l e (headSpec wsX0_apart rm_X0_apart).room s m ([.ref h_o, .ref h_p1] : List Value).toArray below meth c H locs 0 0 Q (F0 m 42 ls []) := by
    intro n
    induction n with
    | zero =>
      intro v2 v3 H locs hP hD hS ls hl hw
      exact (ok0 hw).elim
    | succ n42 ih42 =>
      intro v2 v3 H locs hP hD hS ls hl hw
      replace hw : okP (f_X0_apart_L42b (f_X0_apart_L42 n42) v2 v3 o_total o_sums p1_total p1_sums) post := hw
      unfold f_X0_apart_L42b at hw
      refine lv_iload_n hx hb dX0_apart_42 rfl (lv_at hl 3 rfl) ?_
      refine lv_bipush (v := 100) hx hb dX0_apart_43 (by decide) ?_
      refine lv_icmp_ge (tgt := 71) hx hb dX0_apart_45 (by decide) (fun c_1 => ?_) (fun c_1 => ?_)
      · replace hw := okT hw c_1
        clear c_1
        refine lv_iload_n hx hb dX0_apart_71 rfl (lv_at hl 2 rfl) ?_
        rw [hQ]
        exact W.iret (v := v2) hx hb hr (fun t ht hW => ⟨⟨v2, (), rfl, okS hw, by rw [ht]; exact hP, va_K.moved hW.alike hK, hD⟩, hS.F ht⟩) hS.2.2 dX0_apart_72
      · replace hw := okF hw c_1
        clear c_1
        refine lv_iload_n hx hb dX0_apart_48 rfl (lv_at hl 2 rfl) ?_
        refine lv_aload_n hx hb dX0_apart_49 rfl (lv_at hl 0 rfl) ?_
        refine lv_iload_n hx hb dX0_apart_50 rfl (lv_at hl 3 rfl) ?_
        have hPc := hP.sub (ws' := (W_X0_thousandths cyI cyJ cyO h_o h_told h_seas a_o_sums o_total o_sums)) [0, 1] rfl
        have hDc := hD.sub (ws' := (W_X0_thousandths cyI cyJ cyO h_o h_told h_seas a_o_sums o_total o_sums)) [0, 1] (by decide +kernel) rfl
        have hFc := va_free (wc := (W_X0_thousandths cyI cyJ cyO h_o h_told h_seas a_o_sums o_total o_sums)) hD hS hA [0, 1] rfl
        refine kc_i (wr := [(h_p1, .inr (0, [.ref h_p1_told, .ref h_p1_seas, .ref a_p1_sums, .long p1_total])), (a_p1_sums, .inl (cyJ, 100, .inr (.inl p1_sums)))]) (va_runV (As := [.int v3]) (rest := [.int v2]) ⟨hx, hb, hml, hown, hts⟩ (c_X0_thousandths l dC dI cyI cyJ cyO H.size h_o h_told h_seas a_o_sums o_total o_sums v3 _ (okb1 hw)) (cwV 1 hts (gdV (fun w h => List.mem_cons_of_mem _ h) q_587 q_589 qs_22 q_5 q_590) rfl rfl rfl (by decide +kernel) ⟨Nat.le_of_ble_eq_true rfl, Nat.le_of_ble_eq_true rfl⟩) ⟨(kpre zN_ok hK hPc hDc trivial hS hFc).1, va_recv hK hP (ci := 0) (q0 := 0) rfl rfl, (kpre zN_ok hK hPc hDc trivial hS hFc).2⟩ rfl rfl hl.1 rfl (lv_room (Nat.le_of_ble_eq_true rfl)) dX0_apart_51 ⟨Nat.le_of_ble_eq_true rfl, Nat.le_of_ble_eq_true rfl⟩) hP hD hS hFc [0, 1] [2, 3] rfl rfl (by decide +kernel) (by decide +kernel) (fun r_2 u H locs hw hP hD hS => ?_)
        try dsimp only at hw
        have hP : va_P (dC, dI) vwCl (W_X0_apart cyI cyJ cyO h_o h_p1 h_told h_seas a_o_sums h_p1_told h_p1_seas a_p1_sums o_total o_sums p1_total p1_sums) H := hP.sub [2, 3, 0, 1] rfl
        have hD : va_D A (W_X0_apart cyI cyJ cyO h_o h_p1 h_told h_seas a_o_sums h_p1_told h_p1_seas a_p1_sums o_total o_sums p1_total p1_sums) := hD.sub [2, 3, 0, 1] (by decide +kernel) rfl
        clear hPc hDc hFc
        refine lv_aload_n hx hb dX0_apart_54 rfl (lv_at hl 1 rfl) ?_
        refine lv_iload_n hx hb dX0_apart_55 rfl (lv_at hl 3 rfl) ?_
        have hPc := hP.sub (ws' := (W_X0_thousandths cyI cyJ cyO h_p1 h_p1_told h_p1_seas a_p1_sums p1_total p1_sums)) [2, 3] rfl
        have hDc := hD.sub (ws' := (W_X0_thousandths cyI cyJ cyO h_p1 h_p1_told h_p1_seas a_p1_sums p1_total p1_sums)) [2, 3] (by decide +kernel) rfl
        have hFc := va_free (wc := (W_X0_thousandths cyI cyJ cyO h_p1 h_p1_told h_p1_seas a_p1_sums p1_total p1_sums)) hD hS hA [2, 3] rfl
        refine kc_i (wr := [(h_o, .inr (0, [.ref h_told, .ref h_seas, .ref a_o_sums, .long o_total])), (a_o_sums, .inl (cyJ, 100, .inr (.inl o_sums)))]) (va_runV (As := [.int v3]) (rest := [.int r_2, .int v2]) ⟨hx, hb, hml, hown, hts⟩ (c_X0_thousandths l dC dI cyI cyJ cyO H.size h_p1 h_p1_told h_p1_seas a_p1_sums p1_total p1_sums v3 _ (okb1 hw)) (cwV 1 hts (gdV (fun w h => List.mem_cons_of_mem _ h) q_587 q_589 qs_22 q_5 q_590) rfl rfl rfl (by decide +kernel) ⟨Nat.le_of_ble_eq_true rfl, Nat.le_of_ble_eq_true rfl⟩) ⟨(kpre zN_ok hK hPc hDc trivial hS hFc).1, va_recv hK hP (ci := 0) (q0 := 2) rfl rfl, (kpre zN_ok hK hPc hDc trivial hS hFc).2⟩ rfl rfl hl.1 rfl (lv_room (Nat.le_of_ble_eq_true rfl)) dX0_apart_56 ⟨Nat.le_of_ble_eq_true rfl, Nat.le_of_ble_eq_true rfl⟩) hP hD hS hFc [2, 3] [0, 1] rfl rfl (by decide +kernel) (by decide +kernel) (fun r_3 u H locs hw hP hD hS => ?_)
        try dsimp only at hw
        have hP : va_P (dC, dI) vwCl (W_X0_apart cyI cyJ cyO h_o h_p1 h_told h_seas a_o_sums h_p1_told h_p1_seas a_p1_sums o_total o_sums p1_total p1_sums) H := hP.sub [0, 1, 2, 3] rfl
        have hD : va_D A (W_X0_apart cyI cyJ cyO h_o h_p1 h_told h_seas a_o_sums h_p1_told h_p1_seas a_p1_sums o_total o_sums p1_total p1_sums) := hD.sub [0, 1, 2, 3] (by decide +kernel) rfl
        clear hPc hDc hFc
        refine lv_isub hx hb dX0_apart_59 ?_
        refine va_mabs hx hb (hml.trans hl.1.symm) hown hq0 hq1 hq2 hq3 (Nat.le_of_ble_eq_true rfl) (Nat.le_of_ble_eq_true rfl) (Nat.le_of_ble_eq_true rfl) (Nat.le_of_ble_eq_true rfl) dX0_apart_60 ?_
        refine lv_iadd hx hb dX0_apart_63 ?_
        refine lv_topi (fun x_4 ex_4 => ?_)
        replace hw := okN ex_4 hw
        clear ex_4
        refine lv_istore_n (lv' := [(2, .int x_4), (0, .ref h_o), (1, .ref h_p1), (3, .int v3)]) hx hb dX0_apart_64 rfl hl (by decide) rfl (fun ls hl => ?_)
        obtain ⟨x_5, ex_5⟩ : ∃ y : Int32, y = v3 + 1 := ⟨_, rfl⟩
        replace hw := okN ex_5 hw
        refine lv_iinc (v := x_5) (lv' := [(3, .int x_5), (2, .int x_4), (0, .ref h_o), (1, .ref h_p1)]) hx hb dX0_apart_65 hl (k := 3) rfl (by rw [ex_5]; rfl) (by decide) rfl (fun ls hl => ?_)
        clear ex_5
        refine lv_goto (tgt := 42) hx hb dX0_apart_68 (by decide) ?_
        exact ih42 x_4 x_5 _ _ hP hD hS _ (lv_sub hl [2, 3, 1, 0] rfl) hw
  have w18 : ∀ (H : Heap) (locs : List Loc), va_P (dC, dI) vwCl (W_X0_apart cyI cyJ cyO h_o h_p1 h_told h_seas a_o_sums h_p1_told h_p1_seas a_p1_sums o_total o_sums p1_total p1_sums) H → va_D A (W_X0_apart cyI cyJ cyO h_o h_p1 h_told h_seas a_o_sums h_p1_told h_p1_seas a_p1_sums o_total o_sums p1_total p1_sums) → va_S A s.heap H locs → ∀ (ls : Array Slot), lv_has ls 4 [(0, .ref h_o), (1, .ref h_p1)] → okP (f_X0_apart_B18 o_total o_sums p1_total p1_sums) post → W p l e (headSpec wsX0_apart rm_X0_apart).room s m ([.ref h_o, .ref h_p1] : List Value).toArray below meth c H locs 0 0 Q (F0 m 18 ls []) := by
    intro  H locs hP hD hS ls hl hw
    unfold f_X0_apart_B18 at hw
    refine lv_aload_n hx hb dX0_apart_18 rfl (lv_at hl 0 rfl) ?_
    refine va_get (D := (dC, dI)) (ci := 0) (v := .long o_total) (C := RX0) (T := TX0) (N := 4) hx hb hts hi0 hown hK hP 0 rfl rfl 3 (by decide) hq4 (fun _ h9 => h9) rfl dX0_apart_19 ?_
    refine lv_aload_n hx hb dX0_apart_22 rfl (lv_at hl 1 rfl) ?_
    refine va_get (D := (dC, dI)) (ci := 0) (v := .long p1_total) (C := RX0) (T := TX0) (N := 4) hx hb hts hi0 hown hK hP 2 rfl rfl 3 (by decide) hq4 (fun _ h9 => h9) rfl dX0_apart_23 ?_
    refine W.lcmp hx hb dX0_apart_26 ?_
    refine lv_if_ne (tgt := 34) hx hb dX0_apart_27 (by decide) (fun c_6 => ?_) (fun c_6 => ?_)
    · replace hw := okF hw c_6
      clear c_6
      refine lv_sipush (v := 1000) hx hb dX0_apart_34 (by decide) ?_
      rw [hQ]
      exact W.iret (v := 1000) hx hb hr (fun t ht hW => ⟨⟨1000, (), rfl, okS hw, by rw [ht]; exact hP, va_K.moved hW.alike hK, hD⟩, hS.F ht⟩) hS.2.2 dX0_apart_37
    · replace hw := okT hw c_6
      clear c_6
      refine lv_iconst (v := 0) hx hb dX0_apart_30 (by decide) ?_
      refine lv_goto (tgt := 37) hx hb dX0_apart_31 (by decide) ?_
      rw [hQ]
      exact W.iret (v := 0) hx hb hr (fun t ht hW => ⟨⟨0, (), rfl, okS hw, by rw [ht]; exact hP, va_K.moved hW.alike hK, hD⟩, hS.F ht⟩) hS.2.2 dX0_apart_37
  unfold f_X0_apart at hw
  have hP : va_P (dC, dI) vwCl (W_X0_apart cyI cyJ cyO h_o h_p1 h_told h_seas a_o_sums h_p1_told h_p1_seas a_p1_sums o_total o_sums p1_total p1_sums) s.heap := hP
  obtain ⟨H, hH⟩ : ∃ H, H = s.heap := ⟨_, rfl⟩
  obtain ⟨locs, hlo⟩ : ∃ x : List Loc, x = [] := ⟨_, rfl⟩
  have hP : va_P (dC, dI) vwCl (W_X0_apart cyI cyJ cyO h_o h_p1 h_told h_seas a_o_sums h_p1_told h_p1_seas a_p1_sums o_total o_sums p1_total p1_sums) H := by rw [hH]; exact hP
  have hS : va_S A s.heap H locs := by rw [hH, hlo]; exact hS
  refine kH hH hlo ?_
  clear hH hlo
  refine lv_aload_n hx hb dX0_apart_0 rfl (lv_at hl 0 rfl) ?_
  refine va_get (D := (dC, dI)) (ci := 0) (v := .long o_total) (C := RX0) (T := TX0) (N := 4) hx hb hts hi0 hown hK hP 0 rfl rfl 3 (by decide) hq4 (fun _ h9 => h9) rfl dX0_apart_1 ?_
  refine lv_lconst (v := 0) hx hb dX0_apart_4 (by decide) ?_
  refine W.lcmp hx hb dX0_apart_5 ?_
  refine lv_if_eq (tgt := 18) hx hb dX0_apart_6 (by decide) (fun c_7 => ?_) (fun c_7 => ?_)
  · replace hw := okT hw c_7
    clear c_7
    exact w18 _ _ hP hD hS _ (lv_sub hl [0, 1] rfl) hw
  · replace hw := okF hw c_7
    clear c_7
    refine lv_aload_n hx hb dX0_apart_9 rfl (lv_at hl 1 rfl) ?_
    refine va_get (D := (dC, dI)) (ci := 0) (v := .long p1_total) (C := RX0) (T := TX0) (N := 4) hx hb hts hi0 hown hK hP 2 rfl rfl 3 (by decide) hq4 (fun _ h9 => h9) rfl dX0_apart_10 ?_
    refine lv_lconst (v := 0) hx hb dX0_apart_13 (by decide) ?_
    refine W.lcmp hx hb dX0_apart_14 ?_
    refine lv_if_ne (tgt := 38) hx hb dX0_apart_15 (by decide) (fun c_8 => ?_) (fun c_8 => ?_)
    · replace hw := okF hw c_8
      clear c_8
      refine lv_iconst (v := 0) hx hb dX0_apart_38 (by decide) ?_
      refine lv_istore_n (lv' := [(2, .int 0), (0, .ref h_o), (1, .ref h_p1)]) hx hb dX0_apart_39 rfl hl (by decide) rfl (fun ls hl => ?_)
      refine lv_iconst (v := 0) hx hb dX0_apart_40 (by decide) ?_
      refine lv_istore_n (lv' := [(3, .int 0), (2, .int 0), (0, .ref h_o), (1, .ref h_p1)]) hx hb dX0_apart_41 rfl hl (by decide) rfl (fun ls hl => ?_)
      exact w42 FU 0 0 _ _ hP hD hS _ (lv_sub hl [2, 3, 1, 0] rfl) hw
    · replace hw := okT hw c_8
      clear c_8
      exact w18 _ _ hP hD hS _ (lv_sub hl [0, 1] rfl) hw
