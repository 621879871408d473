/-! ===== X7_in ===== -/
theorem dX7_in_0 : decode cX7_in 0 = .ok (.lload_n 0, 1) := by decide +kernel
theorem dX7_in_1 : decode cX7_in 1 = .ok (.lload_n 2, 1) := by decide +kernel
theorem dX7_in_2 : decode cX7_in 2 = .ok (.lcmp, 1) := by decide +kernel
theorem dX7_in_3 : decode cX7_in 3 = .ok (.ifCond .lt 14, 3) := by decide +kernel
theorem dX7_in_6 : decode cX7_in 6 = .ok (.lload_n 0, 1) := by decide +kernel
theorem dX7_in_7 : decode cX7_in 7 = .ok (.lload 4, 2) := by decide +kernel
theorem dX7_in_9 : decode cX7_in 9 = .ok (.lcmp, 1) := by decide +kernel
theorem dX7_in_10 : decode cX7_in 10 = .ok (.ifCond .gt 7, 3) := by decide +kernel
theorem dX7_in_13 : decode cX7_in 13 = .ok (.iconst 1, 1) := by decide +kernel
theorem dX7_in_14 : decode cX7_in 14 = .ok (.goto 4, 3) := by decide +kernel
theorem dX7_in_17 : decode cX7_in 17 = .ok (.iconst 0, 1) := by decide +kernel
theorem dX7_in_18 : decode cX7_in 18 = .ok (.ireturn, 1) := by decide +kernel
abbrev W_X7_in (cyI cyJ cyO : ClassId) : va_W := []
def f_X7_in (x1 : Int64) (x2 : Int64) (x3 : Int64) : Option (Int32) :=
  if (lg_cmp x1 x2) < 0 then
    some 0
  else
    if 0 < (lg_cmp x1 x3) then
      some 0
    else
      some 1
abbrev rm_X7_in : Room := { frames := 0, cells := 0, slots := 0, locals := 0 }
set_option maxRecDepth 100000 in
set_option maxHeartbeats 4000000 in
theorem c_X7_in (l : Launch) (dC : Nat → ClassId) (dI : Nat → Nat → Nat) (cyI cyJ cyO : ClassId) (sz : Nat) (x1 : Int64) (x2 : Int64) (x3 : Int64) (post : Int32 → Prop) (hf : okP (f_X7_in x1 x2 x3) post) : Ci l (dC, dI) (tyL cyI cyJ cyO) yX7_in wsX7_in rm_X7_in [.long x1, .long x2, .long x3] sz (W_X7_in cyI cyJ cyO) zN (fun r (_ : Unit) => post r) (fun _ => (W_X7_in cyI cyJ cyO)) := by
  refine Met.ofW (cc := cX7_in) (maxL := 6) (ret := (some .boolean)) (by decide) rfl ?_
  intro p e s m args below meth c s₁ B hml hv
  obtain ⟨rfl, hsz, hP, hK, hD0, hZ⟩ := hv
  have hx := B.exec
  have hb := B.bytes
  have hr := B.returns
  have hts := atoms_spec (ws := wsX7_in) B.pre
  have hown : s.vm.findClass RX7 = some m.cls := findClass_of_methodNamed B.named
  have hlocks := B.notSynchronized
  subst hsz
  have hD := hD0.self (sz := s.heap.size)
  generalize hAe : va_A (W_X7_in cyI cyJ cyO) s.heap.size = A at hD hZ ⊢
  have hA : ∀ q : Nat, s.heap.size ≤ q → A q := fun q h => by rw [← hAe]; exact Or.inr h
  clear hAe hD0
  have hS : va_S A s.heap s.heap [] := va_S.rf
  have hl := lv_entry ([.long x1, .long x2, .long x3]) (n := 6) (Nat.le_of_ble_eq_true rfl)
  rw [lg_entry_eq]
  generalize (lg_sl ([.long x1, .long x2, .long x3]) ++ List.replicate (6 - (lg_sl ([.long x1, .long x2, .long x3])).length) Slot.unset).toArray = ls at hl ⊢
  have hl : lv_has ls 6 [(0, .long x1), (2, .long x2), (4, .long x3)] := hl
  refine kW (fun Q hQ => ?_)
  have hw := hf
  unfold f_X7_in at hw
  have hP : va_P (dC, dI) vwCl (W_X7_in cyI cyJ cyO) s.heap := hP
  obtain ⟨H, hH⟩ : ∃ H, H = s.heap := ⟨_, rfl⟩
  obtain ⟨locs, hlo⟩ : ∃ x : List Loc, x = [] := ⟨_, rfl⟩
  have hP : va_P (dC, dI) vwCl (W_X7_in cyI cyJ cyO) H := by rw [hH]; exact hP
  have hS : va_S A s.heap H locs := by rw [hH, hlo]; exact hS
  refine kH hH hlo ?_
  clear hH hlo
  refine lv_lload_n hx hb dX7_in_0 rfl (lv_at hl 0 rfl) ?_
  refine lv_lload_n hx hb dX7_in_1 rfl (lv_at hl 1 rfl) ?_
  refine W.lcmp hx hb dX7_in_2 ?_
  refine lv_if_lt (tgt := 17) hx hb dX7_in_3 (by decide) (fun c_1 => ?_) (fun c_1 => ?_)
  · replace hw := okT hw c_1
    clear c_1
    refine lv_iconst (v := 0) hx hb dX7_in_17 (by decide) ?_
    rw [hQ]
    exact W.zret (v := 0) hx hb hr (by decide) (fun t ht hW => ⟨⟨0, (), rfl, okS hw, by rw [ht]; exact hP, va_K.moved hW.alike hK, hD⟩, hS.F ht⟩) hS.2.2 dX7_in_18
  · replace hw := okF hw c_1
    clear c_1
    refine lv_lload_n hx hb dX7_in_6 rfl (lv_at hl 0 rfl) ?_
    refine lv_lload hx hb dX7_in_7 (lv_at hl 2 rfl) ?_
    refine W.lcmp hx hb dX7_in_9 ?_
    refine lv_if_gt (tgt := 17) hx hb dX7_in_10 (by decide) (fun c_2 => ?_) (fun c_2 => ?_)
    · replace hw := okT hw c_2
      clear c_2
      refine lv_iconst (v := 0) hx hb dX7_in_17 (by decide) ?_
      rw [hQ]
      exact W.zret (v := 0) hx hb hr (by decide) (fun t ht hW => ⟨⟨0, (), rfl, okS hw, by rw [ht]; exact hP, va_K.moved hW.alike hK, hD⟩, hS.F ht⟩) hS.2.2 dX7_in_18
    · replace hw := okF hw c_2
      clear c_2
      refine lv_iconst (v := 1) hx hb dX7_in_13 (by decide) ?_
      refine lv_goto (tgt := 18) hx hb dX7_in_14 (by decide) ?_
      rw [hQ]
      exact W.zret (v := 1) hx hb hr (by decide) (fun t ht hW => ⟨⟨1, (), rfl, okS hw, by rw [ht]; exact hP, va_K.moved hW.alike hK, hD⟩, hS.F ht⟩) hS.2.2 dX7_in_18
/-! ===== X7_isCell ===== -/
theorem dX7_isCell_0 : decode cX7_isCell 0 = .ok (.iload_n 0, 1) := by decide +kernel
theorem dX7_isCell_1 : decode cX7_isCell 1 = .ok (.i2l, 1) := by decide +kernel
theorem dX7_isCell_2 : decode cX7_isCell 2 = .ok (.lconst 0, 1) := by decide +kernel
theorem dX7_isCell_3 : decode cX7_isCell 3 = .ok (.ldc2_w 98, 3) := by decide +kernel
theorem dX7_isCell_6 : decode cX7_isCell 6 = .ok (.invokestatic 100, 3) := by decide +kernel
theorem dX7_isCell_9 : decode cX7_isCell 9 = .ok (.ireturn, 1) := by decide +kernel
abbrev W_X7_isCell (cyI cyJ cyO : ClassId) : va_W := []
def f_X7_isCell (x1 : Int32) : Option (Int32) :=
  bd1 (f_X7_in x1.toInt64 0 99) fun r_1 =>
  chk (r_1 = 0 ∨ r_1 = 1) <|
  some r_1
abbrev rm_X7_isCell : Room := { frames := 1, cells := 0, slots := 0, locals := 25 }
set_option maxRecDepth 100000 in
set_option maxHeartbeats 4000000 in
theorem c_X7_isCell (l : Launch) (dC : Nat → ClassId) (dI : Nat → Nat → Nat) (cyI cyJ cyO : ClassId) (sz : Nat) (x1 : Int32) (post : Int32 → Prop) (hf : okP (f_X7_isCell x1) post) : Ci l (dC, dI) (tyL cyI cyJ cyO) yX7_isCell wsX7_isCell rm_X7_isCell [.int x1] sz (W_X7_isCell cyI cyJ cyO) zN (fun r (_ : Unit) => post r) (fun _ => (W_X7_isCell cyI cyJ cyO)) := by
  refine Met.ofW (cc := cX7_isCell) (maxL := 1) (ret := (some .boolean)) (by decide) rfl ?_
  intro p e s m args below meth c s₁ B hml hv
  obtain ⟨rfl, hsz, hP, hK, hD0, hZ⟩ := hv
  have hx := B.exec
  have hb := B.bytes
  have hr := B.returns
  have hts := atoms_spec (ws := wsX7_isCell) B.pre
  have hown : s.vm.findClass RX7 = some m.cls := findClass_of_methodNamed B.named
  have hlocks := B.notSynchronized
  subst hsz
  have hD := hD0.self (sz := s.heap.size)
  generalize hAe : va_A (W_X7_isCell cyI cyJ cyO) s.heap.size = A at hD hZ ⊢
  have hA : ∀ q : Nat, s.heap.size ≤ q → A q := fun q h => by rw [← hAe]; exact Or.inr h
  clear hAe hD0
  have hS : va_S A s.heap s.heap [] := va_S.rf
  have hl := lv_entry ([.int x1]) (n := 1) (Nat.le_of_ble_eq_true rfl)
  rw [lg_entry_eq]
  generalize (lg_sl ([.int x1]) ++ List.replicate (1 - (lg_sl ([.int x1])).length) Slot.unset).toArray = ls at hl ⊢
  have hl : lv_has ls 1 [(0, .int x1)] := hl
  refine kW (fun Q hQ => ?_)
  have hq0 := hts _ (List.mem_cons_of_mem _ q_848)
  have hw := hf
  unfold f_X7_isCell at hw
  have hP : va_P (dC, dI) vwCl (W_X7_isCell cyI cyJ cyO) s.heap := hP
  obtain ⟨H, hH⟩ : ∃ H, H = s.heap := ⟨_, rfl⟩
  obtain ⟨locs, hlo⟩ : ∃ x : List Loc, x = [] := ⟨_, rfl⟩
  have hP : va_P (dC, dI) vwCl (W_X7_isCell cyI cyJ cyO) H := by rw [hH]; exact hP
  have hS : va_S A s.heap H locs := by rw [hH, hlo]; exact hS
  refine kH hH hlo ?_
  clear hH hlo
  refine lv_iload_n hx hb dX7_isCell_0 rfl (lv_at hl 0 rfl) ?_
  refine lv_i2l (v := x1.toInt64) hx hb dX7_isCell_1 rfl ?_
  refine lv_lconst (v := 0) hx hb dX7_isCell_2 (by decide) ?_
  refine lv_ldc2 (v := 99) hx hb hown hq0 dX7_isCell_3 ?_
  have hFc := va_free (wc := []) hD hS hA [] rfl
  refine kp_i (va_runS (As := [.long x1.toInt64, .long 0, .long 99]) (rest := []) ⟨hx, hb, hml, hown, hts⟩ (c_X7_in l dC dI cyI cyJ cyO H.size x1.toInt64 0 99 _ (okb1 hw)) (va_cwS 3 hts (gdS (fun w h => List.mem_cons_of_mem _ h) q_838 q_839 q_8 q_840) rfl rfl rfl (by decide +kernel) ⟨Nat.le_of_ble_eq_true rfl, Nat.le_of_ble_eq_true rfl⟩) (kpre zN_ok hK va_P0 va_D0 trivial hS hFc) rfl rfl hl.1 rfl (lv_room (Nat.le_of_ble_eq_true rfl)) dX7_isCell_6 ⟨Nat.le_of_ble_eq_true rfl, Nat.le_of_ble_eq_true rfl⟩) hP hD hS hFc (fun r_1 H locs hw hP hS => ?_)
  try dsimp only at hw
  clear hFc
  obtain ⟨h_2, hw⟩ := okC hw
  rw [hQ]
  exact W.zret (v := r_1) hx hb hr (nbZ h_2) (fun t ht hW => ⟨⟨r_1, (), rfl, okS hw, by rw [ht]; exact hP, va_K.moved hW.alike hK, hD⟩, hS.F ht⟩) hS.2.2 dX7_isCell_9
/-! ===== X7_rowStep ===== -/
theorem dX7_rowStep_0 : decode cX7_rowStep 0 = .ok (.iload_n 0, 1) := by decide +kernel
theorem dX7_rowStep_1 : decode cX7_rowStep 1 = .ok (.bipush 7, 2) := by decide +kernel
theorem dX7_rowStep_3 : decode cX7_rowStep 3 = .ok (.if_icmp .eq 8, 3) := by decide +kernel
theorem dX7_rowStep_6 : decode cX7_rowStep 6 = .ok (.iload_n 0, 1) := by decide +kernel
theorem dX7_rowStep_7 : decode cX7_rowStep 7 = .ok (.iconst 2, 1) := by decide +kernel
theorem dX7_rowStep_8 : decode cX7_rowStep 8 = .ok (.if_icmp .ge 7, 3) := by decide +kernel
theorem dX7_rowStep_11 : decode cX7_rowStep 11 = .ok (.iconst (-1), 1) := by decide +kernel
theorem dX7_rowStep_12 : decode cX7_rowStep 12 = .ok (.goto 19, 3) := by decide +kernel
theorem dX7_rowStep_15 : decode cX7_rowStep 15 = .ok (.iload_n 0, 1) := by decide +kernel
theorem dX7_rowStep_16 : decode cX7_rowStep 16 = .ok (.iconst 2, 1) := by decide +kernel
theorem dX7_rowStep_17 : decode cX7_rowStep 17 = .ok (.if_icmp .le 13, 3) := by decide +kernel
theorem dX7_rowStep_20 : decode cX7_rowStep 20 = .ok (.iload_n 0, 1) := by decide +kernel
theorem dX7_rowStep_21 : decode cX7_rowStep 21 = .ok (.bipush 6, 2) := by decide +kernel
theorem dX7_rowStep_23 : decode cX7_rowStep 23 = .ok (.if_icmp .ge 7, 3) := by decide +kernel
theorem dX7_rowStep_26 : decode cX7_rowStep 26 = .ok (.iconst 1, 1) := by decide +kernel
theorem dX7_rowStep_27 : decode cX7_rowStep 27 = .ok (.goto 4, 3) := by decide +kernel
theorem dX7_rowStep_30 : decode cX7_rowStep 30 = .ok (.iconst 0, 1) := by decide +kernel
theorem dX7_rowStep_31 : decode cX7_rowStep 31 = .ok (.ireturn, 1) := by decide +kernel
abbrev W_X7_rowStep (cyI cyJ cyO : ClassId) : va_W := []
def f_X7_rowStep (x1 : Int32) : Option (Int32) :=
  if x1 = 7 then
    some (-1)
  else
    if 2 ≤ x1 then
      if x1 ≤ 2 then
        some 0
      else
        if 6 ≤ x1 then
          some 0
        else
          some 1
    else
      some (-1)
abbrev rm_X7_rowStep : Room := { frames := 0, cells := 0, slots := 0, locals := 0 }
set_option maxRecDepth 100000 in
set_option maxHeartbeats 4000000 in
theorem c_X7_rowStep (l : Launch) (dC : Nat → ClassId) (dI : Nat → Nat → Nat) (cyI cyJ cyO : ClassId) (sz : Nat) (x1 : Int32) (post : Int32 → Prop) (hf : okP (f_X7_rowStep x1) post) : Ci l (dC, dI) (tyL cyI cyJ cyO) yX7_rowStep wsX7_rowStep rm_X7_rowStep [.int x1] sz (W_X7_rowStep cyI cyJ cyO) zN (fun r (_ : Unit) => post r) (fun _ => (W_X7_rowStep cyI cyJ cyO)) := by
  refine Met.ofW (cc := cX7_rowStep) (maxL := 1) (ret := (some .int)) (by decide) rfl ?_
  intro p e s m args below meth c s₁ B hml hv
  obtain ⟨rfl, hsz, hP, hK, hD0, hZ⟩ := hv
  have hx := B.exec
  have hb := B.bytes
  have hr := B.returns
  have hts := atoms_spec (ws := wsX7_rowStep) B.pre
  have hown : s.vm.findClass RX7 = some m.cls := findClass_of_methodNamed B.named
  have hlocks := B.notSynchronized
  subst hsz
  have hD := hD0.self (sz := s.heap.size)
  generalize hAe : va_A (W_X7_rowStep cyI cyJ cyO) s.heap.size = A at hD hZ ⊢
  have hA : ∀ q : Nat, s.heap.size ≤ q → A q := fun q h => by rw [← hAe]; exact Or.inr h
  clear hAe hD0
  have hS : va_S A s.heap s.heap [] := va_S.rf
  have hl := lv_entry ([.int x1]) (n := 1) (Nat.le_of_ble_eq_true rfl)
  rw [lg_entry_eq]
  generalize (lg_sl ([.int x1]) ++ List.replicate (1 - (lg_sl ([.int x1])).length) Slot.unset).toArray = ls at hl ⊢
  have hl : lv_has ls 1 [(0, .int x1)] := hl
  refine kW (fun Q hQ => ?_)
  have hw := hf
  unfold f_X7_rowStep at hw
  have hP : va_P (dC, dI) vwCl (W_X7_rowStep cyI cyJ cyO) s.heap := hP
  obtain ⟨H, hH⟩ : ∃ H, H = s.heap := ⟨_, rfl⟩
  obtain ⟨locs, hlo⟩ : ∃ x : List Loc, x = [] := ⟨_, rfl⟩
  have hP : va_P (dC, dI) vwCl (W_X7_rowStep cyI cyJ cyO) H := by rw [hH]; exact hP
  have hS : va_S A s.heap H locs := by rw [hH, hlo]; exact hS
  refine kH hH hlo ?_
  clear hH hlo
  refine lv_iload_n hx hb dX7_rowStep_0 rfl (lv_at hl 0 rfl) ?_
  refine lv_bipush (v := 7) hx hb dX7_rowStep_1 (by decide) ?_
  refine lv_icmp_eq (tgt := 11) hx hb dX7_rowStep_3 (by decide) (fun c_1 => ?_) (fun c_1 => ?_)
  · replace hw := okT hw c_1
    clear c_1
    refine lv_iconst (v := (-1)) hx hb dX7_rowStep_11 (by decide) ?_
    refine lv_goto (tgt := 31) hx hb dX7_rowStep_12 (by decide) ?_
    rw [hQ]
    exact W.iret (v := (-1)) hx hb hr (fun t ht hW => ⟨⟨(-1), (), rfl, okS hw, by rw [ht]; exact hP, va_K.moved hW.alike hK, hD⟩, hS.F ht⟩) hS.2.2 dX7_rowStep_31
  · replace hw := okF hw c_1
    clear c_1
    refine lv_iload_n hx hb dX7_rowStep_6 rfl (lv_at hl 0 rfl) ?_
    refine lv_iconst (v := 2) hx hb dX7_rowStep_7 (by decide) ?_
    refine lv_icmp_ge (tgt := 15) hx hb dX7_rowStep_8 (by decide) (fun c_2 => ?_) (fun c_2 => ?_)
    · replace hw := okT hw c_2
      clear c_2
      refine lv_iload_n hx hb dX7_rowStep_15 rfl (lv_at hl 0 rfl) ?_
      refine lv_iconst (v := 2) hx hb dX7_rowStep_16 (by decide) ?_
      refine lv_icmp_le (tgt := 30) hx hb dX7_rowStep_17 (by decide) (fun c_3 => ?_) (fun c_3 => ?_)
      · replace hw := okT hw c_3
        clear c_3
        refine lv_iconst (v := 0) hx hb dX7_rowStep_30 (by decide) ?_
        rw [hQ]
        exact W.iret (v := 0) hx hb hr (fun t ht hW => ⟨⟨0, (), rfl, okS hw, by rw [ht]; exact hP, va_K.moved hW.alike hK, hD⟩, hS.F ht⟩) hS.2.2 dX7_rowStep_31
      · replace hw := okF hw c_3
        clear c_3
        refine lv_iload_n hx hb dX7_rowStep_20 rfl (lv_at hl 0 rfl) ?_
        refine lv_bipush (v := 6) hx hb dX7_rowStep_21 (by decide) ?_
        refine lv_icmp_ge (tgt := 30) hx hb dX7_rowStep_23 (by decide) (fun c_4 => ?_) (fun c_4 => ?_)
        · replace hw := okT hw c_4
          clear c_4
          refine lv_iconst (v := 0) hx hb dX7_rowStep_30 (by decide) ?_
          rw [hQ]
          exact W.iret (v := 0) hx hb hr (fun t ht hW => ⟨⟨0, (), rfl, okS hw, by rw [ht]; exact hP, va_K.moved hW.alike hK, hD⟩, hS.F ht⟩) hS.2.2 dX7_rowStep_31
        · replace hw := okF hw c_4
          clear c_4
          refine lv_iconst (v := 1) hx hb dX7_rowStep_26 (by decide) ?_
          refine lv_goto (tgt := 31) hx hb dX7_rowStep_27 (by decide) ?_
          rw [hQ]
          exact W.iret (v := 1) hx hb hr (fun t ht hW => ⟨⟨1, (), rfl, okS hw, by rw [ht]; exact hP, va_K.moved hW.alike hK, hD⟩, hS.F ht⟩) hS.2.2 dX7_rowStep_31
    · replace hw := okF hw c_2
      clear c_2
      refine lv_iconst (v := (-1)) hx hb dX7_rowStep_11 (by decide) ?_
      refine lv_goto (tgt := 31) hx hb dX7_rowStep_12 (by decide) ?_
      rw [hQ]
      exact W.iret (v := (-1)) hx hb hr (fun t ht hW => ⟨⟨(-1), (), rfl, okS hw, by rw [ht]; exact hP, va_K.moved hW.alike hK, hD⟩, hS.F ht⟩) hS.2.2 dX7_rowStep_31
/-! ===== X7_columnStep ===== -/
theorem dX7_columnStep_0 : decode cX7_columnStep 0 = .ok (.iload_n 0, 1) := by decide +kernel
theorem dX7_columnStep_1 : decode cX7_columnStep 1 = .ok (.ifCond .le 12, 3) := by decide +kernel
theorem dX7_columnStep_4 : decode cX7_columnStep 4 = .ok (.iload_n 0, 1) := by decide +kernel
theorem dX7_columnStep_5 : decode cX7_columnStep 5 = .ok (.iconst 4, 1) := by decide +kernel
theorem dX7_columnStep_6 : decode cX7_columnStep 6 = .ok (.if_icmp .ge 7, 3) := by decide +kernel
theorem dX7_columnStep_9 : decode cX7_columnStep 9 = .ok (.iconst 1, 1) := by decide +kernel
theorem dX7_columnStep_10 : decode cX7_columnStep 10 = .ok (.goto 19, 3) := by decide +kernel
theorem dX7_columnStep_13 : decode cX7_columnStep 13 = .ok (.iload_n 0, 1) := by decide +kernel
theorem dX7_columnStep_14 : decode cX7_columnStep 14 = .ok (.iconst 4, 1) := by decide +kernel
theorem dX7_columnStep_15 : decode cX7_columnStep 15 = .ok (.if_icmp .le 13, 3) := by decide +kernel
theorem dX7_columnStep_18 : decode cX7_columnStep 18 = .ok (.iload_n 0, 1) := by decide +kernel
theorem dX7_columnStep_19 : decode cX7_columnStep 19 = .ok (.bipush 8, 2) := by decide +kernel
theorem dX7_columnStep_21 : decode cX7_columnStep 21 = .ok (.if_icmp .ge 7, 3) := by decide +kernel
theorem dX7_columnStep_24 : decode cX7_columnStep 24 = .ok (.iconst (-1), 1) := by decide +kernel
theorem dX7_columnStep_25 : decode cX7_columnStep 25 = .ok (.goto 4, 3) := by decide +kernel
theorem dX7_columnStep_28 : decode cX7_columnStep 28 = .ok (.iconst 0, 1) := by decide +kernel
theorem dX7_columnStep_29 : decode cX7_columnStep 29 = .ok (.ireturn, 1) := by decide +kernel
abbrev W_X7_columnStep (cyI cyJ cyO : ClassId) : va_W := []
def f_X7_columnStep_B13 (v0 : Int32) : Option (Int32) :=
  if v0 ≤ 4 then
    some 0
  else
    if 8 ≤ v0 then
      some 0
    else
      some (-1)
def f_X7_columnStep (x1 : Int32) : Option (Int32) :=
  if x1 ≤ 0 then
    f_X7_columnStep_B13 x1
  else
    if 4 ≤ x1 then
      f_X7_columnStep_B13 x1
    else
      some 1
abbrev rm_X7_columnStep : Room := { frames := 0, cells := 0, slots := 0, locals := 0 }
set_option maxRecDepth 100000 in
set_option maxHeartbeats 4000000 in
theorem c_X7_columnStep (l : Launch) (dC : Nat → ClassId) (dI : Nat → Nat → Nat) (cyI cyJ cyO : ClassId) (sz : Nat) (x1 : Int32) (post : Int32 → Prop) (hf : okP (f_X7_columnStep x1) post) : Ci l (dC, dI) (tyL cyI cyJ cyO) yX7_columnStep wsX7_columnStep rm_X7_columnStep [.int x1] sz (W_X7_columnStep cyI cyJ cyO) zN (fun r (_ : Unit) => post r) (fun _ => (W_X7_columnStep cyI cyJ cyO)) := by
  refine Met.ofW (cc := cX7_columnStep) (maxL := 1) (ret := (some .int)) (by decide) rfl ?_
  intro p e s m args below meth c s₁ B hml hv
  obtain ⟨rfl, hsz, hP, hK, hD0, hZ⟩ := hv
  have hx := B.exec
  have hb := B.bytes
  have hr := B.returns
  have hts := atoms_spec (ws := wsX7_columnStep) B.pre
  have hown : s.vm.findClass RX7 = some m.cls := findClass_of_methodNamed B.named
  have hlocks := B.notSynchronized
  subst hsz
  have hD := hD0.self (sz := s.heap.size)
  generalize hAe : va_A (W_X7_columnStep cyI cyJ cyO) s.heap.size = A at hD hZ ⊢
  have hA : ∀ q : Nat, s.heap.size ≤ q → A q := fun q h => by rw [← hAe]; exact Or.inr h
  clear hAe hD0
  have hS : va_S A s.heap s.heap [] := va_S.rf
  have hl := lv_entry ([.int x1]) (n := 1) (Nat.le_of_ble_eq_true rfl)
  rw [lg_entry_eq]
  generalize (lg_sl ([.int x1]) ++ List.replicate (1 - (lg_sl ([.int x1])).length) Slot.unset).toArray = ls at hl ⊢
  have hl : lv_has ls 1 [(0, .int x1)] := hl
  refine kW (fun Q hQ => ?_)
  have hw := hf
  have w13 : ∀ (v0 : Int32) (H : Heap) (locs : List Loc), va_P (dC, dI) vwCl (W_X7_columnStep cyI cyJ cyO) H → va_D A (W_X7_columnStep cyI cyJ cyO) → va_S A s.heap H locs → ∀ (ls : Array Slot), lv_has ls 1 [(0, .int v0)] → okP (f_X7_columnStep_B13 v0) post → W p l e (headSpec wsX7_columnStep rm_X7_columnStep).room s m ([.int x1] : List Value).toArray below meth c H locs 0 0 Q (F0 m 13 ls []) := by
    intro v0 H locs hP hD hS ls hl hw
    unfold f_X7_columnStep_B13 at hw
    refine lv_iload_n hx hb dX7_columnStep_13 rfl (lv_at hl 0 rfl) ?_
    refine lv_iconst (v := 4) hx hb dX7_columnStep_14 (by decide) ?_
    refine lv_icmp_le (tgt := 28) hx hb dX7_columnStep_15 (by decide) (fun c_1 => ?_) (fun c_1 => ?_)
    · replace hw := okT hw c_1
      clear c_1
      refine lv_iconst (v := 0) hx hb dX7_columnStep_28 (by decide) ?_
      rw [hQ]
      exact W.iret (v := 0) hx hb hr (fun t ht hW => ⟨⟨0, (), rfl, okS hw, by rw [ht]; exact hP, va_K.moved hW.alike hK, hD⟩, hS.F ht⟩) hS.2.2 dX7_columnStep_29
    · replace hw := okF hw c_1
      clear c_1
      refine lv_iload_n hx hb dX7_columnStep_18 rfl (lv_at hl 0 rfl) ?_
      refine lv_bipush (v := 8) hx hb dX7_columnStep_19 (by decide) ?_
      refine lv_icmp_ge (tgt := 28) hx hb dX7_columnStep_21 (by decide) (fun c_2 => ?_) (fun c_2 => ?_)
      · replace hw := okT hw c_2
        clear c_2
        refine lv_iconst (v := 0) hx hb dX7_columnStep_28 (by decide) ?_
        rw [hQ]
        exact W.iret (v := 0) hx hb hr (fun t ht hW => ⟨⟨0, (), rfl, okS hw, by rw [ht]; exact hP, va_K.moved hW.alike hK, hD⟩, hS.F ht⟩) hS.2.2 dX7_columnStep_29
      · replace hw := okF hw c_2
        clear c_2
        refine lv_iconst (v := (-1)) hx hb dX7_columnStep_24 (by decide) ?_
        refine lv_goto (tgt := 29) hx hb dX7_columnStep_25 (by decide) ?_
        rw [hQ]
        exact W.iret (v := (-1)) hx hb hr (fun t ht hW => ⟨⟨(-1), (), rfl, okS hw, by rw [ht]; exact hP, va_K.moved hW.alike hK, hD⟩, hS.F ht⟩) hS.2.2 dX7_columnStep_29
  unfold f_X7_columnStep at hw
  have hP : va_P (dC, dI) vwCl (W_X7_columnStep cyI cyJ cyO) s.heap := hP
  obtain ⟨H, hH⟩ : ∃ H, H = s.heap := ⟨_, rfl⟩
  obtain ⟨locs, hlo⟩ : ∃ x : List Loc, x = [] := ⟨_, rfl⟩
  have hP : va_P (dC, dI) vwCl (W_X7_columnStep cyI cyJ cyO) H := by rw [hH]; exact hP
  have hS : va_S A s.heap H locs := by rw [hH, hlo]; exact hS
  refine kH hH hlo ?_
  clear hH hlo
  refine lv_iload_n hx hb dX7_columnStep_0 rfl (lv_at hl 0 rfl) ?_
  refine lv_if_le (tgt := 13) hx hb dX7_columnStep_1 (by decide) (fun c_3 => ?_) (fun c_3 => ?_)
  · replace hw := okT hw c_3
    clear c_3
    exact w13 x1 _ _ hP hD hS _ (lv_sub hl [0] rfl) hw
  · replace hw := okF hw c_3
    clear c_3
    refine lv_iload_n hx hb dX7_columnStep_4 rfl (lv_at hl 0 rfl) ?_
    refine lv_iconst (v := 4) hx hb dX7_columnStep_5 (by decide) ?_
    refine lv_icmp_ge (tgt := 13) hx hb dX7_columnStep_6 (by decide) (fun c_4 => ?_) (fun c_4 => ?_)
    · replace hw := okT hw c_4
      clear c_4
      exact w13 x1 _ _ hP hD hS _ (lv_sub hl [0] rfl) hw
    · replace hw := okF hw c_4
      clear c_4
      refine lv_iconst (v := 1) hx hb dX7_columnStep_9 (by decide) ?_
      refine lv_goto (tgt := 29) hx hb dX7_columnStep_10 (by decide) ?_
      rw [hQ]
      exact W.iret (v := 1) hx hb hr (fun t ht hW => ⟨⟨1, (), rfl, okS hw, by rw [ht]; exact hP, va_K.moved hW.alike hK, hD⟩, hS.F ht⟩) hS.2.2 dX7_columnStep_29
/-! ===== X7_gone ===== -/
theorem dX7_gone_0 : decode cX7_gone 0 = .ok (.iload_n 0, 1) := by decide +kernel
theorem dX7_gone_1 : decode cX7_gone 1 = .ok (.bipush 10, 2) := by decide +kernel
theorem dX7_gone_3 : decode cX7_gone 3 = .ok (.idiv, 1) := by decide +kernel
theorem dX7_gone_4 : decode cX7_gone 4 = .ok (.iload_n 1, 1) := by decide +kernel
theorem dX7_gone_5 : decode cX7_gone 5 = .ok (.invokestatic 104, 3) := by decide +kernel
theorem dX7_gone_8 : decode cX7_gone 8 = .ok (.iload_n 2, 1) := by decide +kernel
theorem dX7_gone_9 : decode cX7_gone 9 = .ok (.imul, 1) := by decide +kernel
theorem dX7_gone_10 : decode cX7_gone 10 = .ok (.iadd, 1) := by decide +kernel
theorem dX7_gone_11 : decode cX7_gone 11 = .ok (.istore_n 3, 1) := by decide +kernel
theorem dX7_gone_12 : decode cX7_gone 12 = .ok (.iload_n 0, 1) := by decide +kernel
theorem dX7_gone_13 : decode cX7_gone 13 = .ok (.bipush 10, 2) := by decide +kernel
theorem dX7_gone_15 : decode cX7_gone 15 = .ok (.irem, 1) := by decide +kernel
theorem dX7_gone_16 : decode cX7_gone 16 = .ok (.iload_n 1, 1) := by decide +kernel
theorem dX7_gone_17 : decode cX7_gone 17 = .ok (.invokestatic 108, 3) := by decide +kernel
theorem dX7_gone_20 : decode cX7_gone 20 = .ok (.iload_n 2, 1) := by decide +kernel
theorem dX7_gone_21 : decode cX7_gone 21 = .ok (.imul, 1) := by decide +kernel
theorem dX7_gone_22 : decode cX7_gone 22 = .ok (.iadd, 1) := by decide +kernel
theorem dX7_gone_23 : decode cX7_gone 23 = .ok (.istore 4, 2) := by decide +kernel
theorem dX7_gone_25 : decode cX7_gone 25 = .ok (.iload_n 3, 1) := by decide +kernel
theorem dX7_gone_26 : decode cX7_gone 26 = .ok (.i2l, 1) := by decide +kernel
theorem dX7_gone_27 : decode cX7_gone 27 = .ok (.lconst 0, 1) := by decide +kernel
theorem dX7_gone_28 : decode cX7_gone 28 = .ok (.ldc2_w 111, 3) := by decide +kernel
theorem dX7_gone_31 : decode cX7_gone 31 = .ok (.invokestatic 100, 3) := by decide +kernel
theorem dX7_gone_34 : decode cX7_gone 34 = .ok (.ifCond .eq 26, 3) := by decide +kernel
theorem dX7_gone_37 : decode cX7_gone 37 = .ok (.iload 4, 2) := by decide +kernel
theorem dX7_gone_39 : decode cX7_gone 39 = .ok (.i2l, 1) := by decide +kernel
theorem dX7_gone_40 : decode cX7_gone 40 = .ok (.lconst 0, 1) := by decide +kernel
theorem dX7_gone_41 : decode cX7_gone 41 = .ok (.ldc2_w 111, 3) := by decide +kernel
theorem dX7_gone_44 : decode cX7_gone 44 = .ok (.invokestatic 100, 3) := by decide +kernel
theorem dX7_gone_47 : decode cX7_gone 47 = .ok (.ifCond .eq 13, 3) := by decide +kernel
theorem dX7_gone_50 : decode cX7_gone 50 = .ok (.bipush 10, 2) := by decide +kernel
theorem dX7_gone_52 : decode cX7_gone 52 = .ok (.iload_n 3, 1) := by decide +kernel
theorem dX7_gone_53 : decode cX7_gone 53 = .ok (.imul, 1) := by decide +kernel
theorem dX7_gone_54 : decode cX7_gone 54 = .ok (.iload 4, 2) := by decide +kernel
theorem dX7_gone_56 : decode cX7_gone 56 = .ok (.iadd, 1) := by decide +kernel
theorem dX7_gone_57 : decode cX7_gone 57 = .ok (.goto 5, 3) := by decide +kernel
theorem dX7_gone_60 : decode cX7_gone 60 = .ok (.bipush (-4), 2) := by decide +kernel
theorem dX7_gone_62 : decode cX7_gone 62 = .ok (.ireturn, 1) := by decide +kernel
abbrev W_X7_gone (cyI cyJ cyO : ClassId) : va_W := []
def f_X7_gone (x1 : Int32) (x2 : Int32) (x3 : Int32) : Option (Int32) :=
  bd1 (f_X7_rowStep x2) fun r_1 =>
  nm ((x1 / 10) + (r_1 * x3)) fun x_2 =>
  bd1 (f_X7_columnStep x2) fun r_3 =>
  nm ((x1 - x1 / 10 * 10) + (r_3 * x3)) fun x_4 =>
  bd1 (f_X7_in x_2.toInt64 0 9) fun r_5 =>
  if r_5 = 0 then
    some (-4)
  else
    bd1 (f_X7_in x_4.toInt64 0 9) fun r_6 =>
    if r_6 = 0 then
      some (-4)
    else
      some ((10 * x_2) + x_4)
abbrev rm_X7_gone : Room := { frames := 1, cells := 0, slots := 0, locals := 25 }
set_option maxRecDepth 100000 in
set_option maxHeartbeats 4000000 in
theorem c_X7_gone (l : Launch) (dC : Nat → ClassId) (dI : Nat → Nat → Nat) (cyI cyJ cyO : ClassId) (sz : Nat) (x1 : Int32) (x2 : Int32) (x3 : Int32) (post : Int32 → Prop) (hf : okP (f_X7_gone x1 x2 x3) post) : Ci l (dC, dI) (tyL cyI cyJ cyO) yX7_gone wsX7_gone rm_X7_gone [.int x1, .int x2, .int x3] sz (W_X7_gone cyI cyJ cyO) zN (fun r (_ : Unit) => post r) (fun _ => (W_X7_gone cyI cyJ cyO)) := by
  refine Met.ofW (cc := cX7_gone) (maxL := 5) (ret := (some .int)) (by decide) rfl ?_
  intro p e s m args below meth c s₁ B hml hv
  obtain ⟨rfl, hsz, hP, hK, hD0, hZ⟩ := hv
  have hx := B.exec
  have hb := B.bytes
  have hr := B.returns
  have hts := atoms_spec (ws := wsX7_gone) B.pre
  have hown : s.vm.findClass RX7 = some m.cls := findClass_of_methodNamed B.named
  have hlocks := B.notSynchronized
  subst hsz
  have hD := hD0.self (sz := s.heap.size)
  generalize hAe : va_A (W_X7_gone cyI cyJ cyO) s.heap.size = A at hD hZ ⊢
  have hA : ∀ q : Nat, s.heap.size ≤ q → A q := fun q h => by rw [← hAe]; exact Or.inr h
  clear hAe hD0
  have hS : va_S A s.heap s.heap [] := va_S.rf
  have hl := lv_entry ([.int x1, .int x2, .int x3]) (n := 5) (Nat.le_of_ble_eq_true rfl)
  rw [lg_entry_eq]
  generalize (lg_sl ([.int x1, .int x2, .int x3]) ++ List.replicate (5 - (lg_sl ([.int x1, .int x2, .int x3])).length) Slot.unset).toArray = ls at hl ⊢
  have hl : lv_has ls 5 [(0, .int x1), (1, .int x2), (2, .int x3)] := hl
  refine kW (fun Q hQ => ?_)
  have hq0 := hts _ (List.mem_cons_of_mem _ q_891)
  have hw := hf
  unfold f_X7_gone at hw
  have hP : va_P (dC, dI) vwCl (W_X7_gone cyI cyJ cyO) s.heap := hP
  obtain ⟨H, hH⟩ : ∃ H, H = s.heap := ⟨_, rfl⟩
  obtain ⟨locs, hlo⟩ : ∃ x : List Loc, x = [] := ⟨_, rfl⟩
  have hP : va_P (dC, dI) vwCl (W_X7_gone cyI cyJ cyO) H := by rw [hH]; exact hP
  have hS : va_S A s.heap H locs := by rw [hH, hlo]; exact hS
  refine kH hH hlo ?_
  clear hH hlo
  refine lv_iload_n hx hb dX7_gone_0 rfl (lv_at hl 0 rfl) ?_
  refine lv_bipush (v := 10) hx hb dX7_gone_1 (by decide) ?_
  refine lv_idiv hx hb dX7_gone_3 (by decide) ?_
  refine lv_iload_n hx hb dX7_gone_4 rfl (lv_at hl 1 rfl) ?_
  have hFc := va_free (wc := []) hD hS hA [] rfl
  refine kp_i (va_runS (As := [.int x2]) (rest := [.int (x1 / 10)]) ⟨hx, hb, hml, hown, hts⟩ (c_X7_rowStep l dC dI cyI cyJ cyO H.size x2 _ (okb1 hw)) (va_cwS 1 hts (gdS (fun w h => List.mem_cons_of_mem _ h) q_915 q_916 q_8 q_917) rfl rfl rfl (by decide +kernel) ⟨Nat.le_of_ble_eq_true rfl, Nat.le_of_ble_eq_true rfl⟩) (kpre zN_ok hK va_P0 va_D0 trivial hS hFc) rfl rfl hl.1 rfl (lv_room (Nat.le_of_ble_eq_true rfl)) dX7_gone_5 ⟨Nat.le_of_ble_eq_true rfl, Nat.le_of_ble_eq_true rfl⟩) hP hD hS hFc (fun r_1 H locs hw hP hS => ?_)
  try dsimp only at hw
  clear hFc
  refine lv_iload_n hx hb dX7_gone_8 rfl (lv_at hl 2 rfl) ?_
  refine lv_imul hx hb dX7_gone_9 ?_
  refine lv_iadd hx hb dX7_gone_10 ?_
  refine lv_topi (fun x_2 ex_2 => ?_)
  replace hw := okN ex_2 hw
  clear ex_2
  refine lv_istore_n (lv' := [(3, .int x_2), (0, .int x1), (1, .int x2), (2, .int x3)]) hx hb dX7_gone_11 rfl hl (by decide) rfl (fun ls hl => ?_)
  refine lv_iload_n hx hb dX7_gone_12 rfl (lv_at hl 1 rfl) ?_
  refine lv_bipush (v := 10) hx hb dX7_gone_13 (by decide) ?_
  refine lv_irem hx hb dX7_gone_15 (by decide) ?_
  refine lv_iload_n hx hb dX7_gone_16 rfl (lv_at hl 2 rfl) ?_
  have hFc := va_free (wc := []) hD hS hA [] rfl
  refine kp_i (va_runS (As := [.int x2]) (rest := [.int (x1 - x1 / 10 * 10)]) ⟨hx, hb, hml, hown, hts⟩ (c_X7_columnStep l dC dI cyI cyJ cyO H.size x2 _ (okb1 hw)) (va_cwS 1 hts (gdS (fun w h => List.mem_cons_of_mem _ h) q_918 q_919 q_8 q_920) rfl rfl rfl (by decide +kernel) ⟨Nat.le_of_ble_eq_true rfl, Nat.le_of_ble_eq_true rfl⟩) (kpre zN_ok hK va_P0 va_D0 trivial hS hFc) rfl rfl hl.1 rfl (lv_room (Nat.le_of_ble_eq_true rfl)) dX7_gone_17 ⟨Nat.le_of_ble_eq_true rfl, Nat.le_of_ble_eq_true rfl⟩) hP hD hS hFc (fun r_3 H locs hw hP hS => ?_)
  try dsimp only at hw
  clear hFc
  refine lv_iload_n hx hb dX7_gone_20 rfl (lv_at hl 3 rfl) ?_
  refine lv_imul hx hb dX7_gone_21 ?_
  refine lv_iadd hx hb dX7_gone_22 ?_
  refine lv_topi (fun x_4 ex_4 => ?_)
  replace hw := okN ex_4 hw
  clear ex_4
  refine lv_istore (lv' := [(4, .int x_4), (3, .int x_2), (0, .int x1), (1, .int x2), (2, .int x3)]) hx hb dX7_gone_23 hl (by decide) rfl (fun ls hl => ?_)
  refine lv_iload_n hx hb dX7_gone_25 rfl (lv_at hl 1 rfl) ?_
  refine lv_i2l (v := x_2.toInt64) hx hb dX7_gone_26 rfl ?_
  refine lv_lconst (v := 0) hx hb dX7_gone_27 (by decide) ?_
  refine lv_ldc2 (v := 9) hx hb hown hq0 dX7_gone_28 ?_
  have hFc := va_free (wc := []) hD hS hA [] rfl
  refine kp_i (va_runS (As := [.long x_2.toInt64, .long 0, .long 9]) (rest := []) ⟨hx, hb, hml, hown, hts⟩ (c_X7_in l dC dI cyI cyJ cyO H.size x_2.toInt64 0 9 _ (okb1 hw)) (va_cwS 3 hts (gdS (fun w h => List.mem_cons_of_mem _ h) q_838 q_839 q_8 q_840) rfl rfl rfl (by decide +kernel) ⟨Nat.le_of_ble_eq_true rfl, Nat.le_of_ble_eq_true rfl⟩) (kpre zN_ok hK va_P0 va_D0 trivial hS hFc) rfl rfl hl.1 rfl (lv_room (Nat.le_of_ble_eq_true rfl)) dX7_gone_31 ⟨Nat.le_of_ble_eq_true rfl, Nat.le_of_ble_eq_true rfl⟩) hP hD hS hFc (fun r_5 H locs hw hP hS => ?_)
  try dsimp only at hw
  clear hFc
  refine lv_if_eq (tgt := 60) hx hb dX7_gone_34 (by decide) (fun c_6 => ?_) (fun c_6 => ?_)
  · replace hw := okT hw c_6
    clear c_6
    refine lv_bipush (v := (-4)) hx hb dX7_gone_60 (by decide) ?_
    rw [hQ]
    exact W.iret (v := (-4)) hx hb hr (fun t ht hW => ⟨⟨(-4), (), rfl, okS hw, by rw [ht]; exact hP, va_K.moved hW.alike hK, hD⟩, hS.F ht⟩) hS.2.2 dX7_gone_62
  · replace hw := okF hw c_6
    clear c_6
    refine lv_iload hx hb dX7_gone_37 (lv_at hl 0 rfl) ?_
    refine lv_i2l (v := x_4.toInt64) hx hb dX7_gone_39 rfl ?_
    refine lv_lconst (v := 0) hx hb dX7_gone_40 (by decide) ?_
    refine lv_ldc2 (v := 9) hx hb hown hq0 dX7_gone_41 ?_
    have hFc := va_free (wc := []) hD hS hA [] rfl
    refine kp_i (va_runS (As := [.long x_4.toInt64, .long 0, .long 9]) (rest := []) ⟨hx, hb, hml, hown, hts⟩ (c_X7_in l dC dI cyI cyJ cyO H.size x_4.toInt64 0 9 _ (okb1 hw)) (va_cwS 3 hts (gdS (fun w h => List.mem_cons_of_mem _ h) q_838 q_839 q_8 q_840) rfl rfl rfl (by decide +kernel) ⟨Nat.le_of_ble_eq_true rfl, Nat.le_of_ble_eq_true rfl⟩) (kpre zN_ok hK va_P0 va_D0 trivial hS hFc) rfl rfl hl.1 rfl (lv_room (Nat.le_of_ble_eq_true rfl)) dX7_gone_44 ⟨Nat.le_of_ble_eq_true rfl, Nat.le_of_ble_eq_true rfl⟩) hP hD hS hFc (fun r_7 H locs hw hP hS => ?_)
    try dsimp only at hw
    clear hFc
    refine lv_if_eq (tgt := 60) hx hb dX7_gone_47 (by decide) (fun c_8 => ?_) (fun c_8 => ?_)
    · replace hw := okT hw c_8
      clear c_8
      refine lv_bipush (v := (-4)) hx hb dX7_gone_60 (by decide) ?_
      rw [hQ]
      exact W.iret (v := (-4)) hx hb hr (fun t ht hW => ⟨⟨(-4), (), rfl, okS hw, by rw [ht]; exact hP, va_K.moved hW.alike hK, hD⟩, hS.F ht⟩) hS.2.2 dX7_gone_62
    · replace hw := okF hw c_8
      clear c_8
      refine lv_bipush (v := 10) hx hb dX7_gone_50 (by decide) ?_
      refine lv_iload_n hx hb dX7_gone_52 rfl (lv_at hl 1 rfl) ?_
      refine lv_imul hx hb dX7_gone_53 ?_
      refine lv_iload hx hb dX7_gone_54 (lv_at hl 0 rfl) ?_
      refine lv_iadd hx hb dX7_gone_56 ?_
      refine lv_goto (tgt := 62) hx hb dX7_gone_57 (by decide) ?_
      rw [hQ]
      exact W.iret (v := (10 * x_2) + x_4) hx hb hr (fun t ht hW => ⟨⟨(10 * x_2) + x_4, (), rfl, okS hw, by rw [ht]; exact hP, va_K.moved hW.alike hK, hD⟩, hS.F ht⟩) hS.2.2 dX7_gone_62
/-! ===== X7_away ===== -/
theorem dX7_away_0 : decode cX7_away 0 = .ok (.iload_n 1, 1) := by decide +kernel
theorem dX7_away_1 : decode cX7_away 1 = .ok (.bipush 10, 2) := by decide +kernel
theorem dX7_away_3 : decode cX7_away 3 = .ok (.idiv, 1) := by decide +kernel
theorem dX7_away_4 : decode cX7_away 4 = .ok (.aload_n 0, 1) := by decide +kernel
theorem dX7_away_5 : decode cX7_away 5 = .ok (.getfield 7, 3) := by decide +kernel
theorem dX7_away_8 : decode cX7_away 8 = .ok (.iconst 0, 1) := by decide +kernel
theorem dX7_away_9 : decode cX7_away 9 = .ok (.iaload, 1) := by decide +kernel
theorem dX7_away_10 : decode cX7_away 10 = .ok (.bipush 10, 2) := by decide +kernel
theorem dX7_away_12 : decode cX7_away 12 = .ok (.idiv, 1) := by decide +kernel
theorem dX7_away_13 : decode cX7_away 13 = .ok (.isub, 1) := by decide +kernel
theorem dX7_away_14 : decode cX7_away 14 = .ok (.istore_n 2, 1) := by decide +kernel
theorem dX7_away_15 : decode cX7_away 15 = .ok (.iload_n 1, 1) := by decide +kernel
theorem dX7_away_16 : decode cX7_away 16 = .ok (.bipush 10, 2) := by decide +kernel
theorem dX7_away_18 : decode cX7_away 18 = .ok (.irem, 1) := by decide +kernel
theorem dX7_away_19 : decode cX7_away 19 = .ok (.aload_n 0, 1) := by decide +kernel
theorem dX7_away_20 : decode cX7_away 20 = .ok (.getfield 7, 3) := by decide +kernel
theorem dX7_away_23 : decode cX7_away 23 = .ok (.iconst 0, 1) := by decide +kernel
theorem dX7_away_24 : decode cX7_away 24 = .ok (.iaload, 1) := by decide +kernel
theorem dX7_away_25 : decode cX7_away 25 = .ok (.bipush 10, 2) := by decide +kernel
theorem dX7_away_27 : decode cX7_away 27 = .ok (.irem, 1) := by decide +kernel
theorem dX7_away_28 : decode cX7_away 28 = .ok (.isub, 1) := by decide +kernel
theorem dX7_away_29 : decode cX7_away 29 = .ok (.istore_n 3, 1) := by decide +kernel
theorem dX7_away_30 : decode cX7_away 30 = .ok (.iconst 4, 1) := by decide +kernel
theorem dX7_away_31 : decode cX7_away 31 = .ok (.iload_n 2, 1) := by decide +kernel
theorem dX7_away_32 : decode cX7_away 32 = .ok (.iload_n 2, 1) := by decide +kernel
theorem dX7_away_33 : decode cX7_away 33 = .ok (.imul, 1) := by decide +kernel
theorem dX7_away_34 : decode cX7_away 34 = .ok (.iload_n 3, 1) := by decide +kernel
theorem dX7_away_35 : decode cX7_away 35 = .ok (.iload_n 3, 1) := by decide +kernel
theorem dX7_away_36 : decode cX7_away 36 = .ok (.imul, 1) := by decide +kernel
theorem dX7_away_37 : decode cX7_away 37 = .ok (.iadd, 1) := by decide +kernel
theorem dX7_away_38 : decode cX7_away 38 = .ok (.imul, 1) := by decide +kernel
theorem dX7_away_39 : decode cX7_away 39 = .ok (.istore 4, 2) := by decide +kernel
theorem dX7_away_41 : decode cX7_away 41 = .ok (.iconst 0, 1) := by decide +kernel
theorem dX7_away_42 : decode cX7_away 42 = .ok (.istore 5, 2) := by decide +kernel
theorem dX7_away_44 : decode cX7_away 44 = .ok (.iload 5, 2) := by decide +kernel
theorem dX7_away_46 : decode cX7_away 46 = .ok (.iconst 1, 1) := by decide +kernel
theorem dX7_away_47 : decode cX7_away 47 = .ok (.iadd, 1) := by decide +kernel
theorem dX7_away_48 : decode cX7_away 48 = .ok (.iload 5, 2) := by decide +kernel
theorem dX7_away_50 : decode cX7_away 50 = .ok (.iconst 1, 1) := by decide +kernel
theorem dX7_away_51 : decode cX7_away 51 = .ok (.iadd, 1) := by decide +kernel
theorem dX7_away_52 : decode cX7_away 52 = .ok (.imul, 1) := by decide +kernel
theorem dX7_away_53 : decode cX7_away 53 = .ok (.iload 4, 2) := by decide +kernel
theorem dX7_away_55 : decode cX7_away 55 = .ok (.if_icmp .gt 9, 3) := by decide +kernel
theorem dX7_away_58 : decode cX7_away 58 = .ok (.iinc 5 1, 3) := by decide +kernel
theorem dX7_away_61 : decode cX7_away 61 = .ok (.goto (-17), 3) := by decide +kernel
theorem dX7_away_64 : decode cX7_away 64 = .ok (.iload 5, 2) := by decide +kernel
theorem dX7_away_66 : decode cX7_away 66 = .ok (.ireturn, 1) := by decide +kernel
abbrev W_X7_away (cyI cyJ cyO : ClassId) (h_o a_o_sets a_o_ringFar a_o_ringTone a_o_currents a_o_warmths a_o_depths a_o_tape a_o_readFar a_o_readTone a_o_readSea a_o_code a_o_cellAt a_o_courseAt a_o_paceAt a_o_turnsAt a_o_slowAt a_o_fuelAt a_o_ringAt a_o_pieceParts a_o_dragCell a_o_dragBy a_o_sums a_o_shares a_o_keptFar a_o_image a_o_lanes a_o_sizes a_o_items a_o_movedItems : Nat) (o_taped : Int32) (o_at : Int32) (o_wrong : Int32) (o_level : Int32) (o_noRings : Int32) (o_noTones : Int32) (o_noFuel : Int32) (o_pieces : Int32) (o_drags : Int32) (o_all : Int64) (o_noPieces : Int32) (o_noDrags : Int32) (o_kept : Int32) (o_sets : Nat → Int32) : va_W := [(h_o, .inr (7, [.ref a_o_sets, .ref a_o_ringFar, .ref a_o_ringTone, .ref a_o_currents, .ref a_o_warmths, .ref a_o_depths, .ref a_o_tape, .int o_taped, .int o_at, .int o_wrong, .ref a_o_readFar, .ref a_o_readTone, .ref a_o_readSea, .ref a_o_code, .ref a_o_cellAt, .ref a_o_courseAt, .ref a_o_paceAt, .ref a_o_turnsAt, .ref a_o_slowAt, .ref a_o_fuelAt, .ref a_o_ringAt, .int o_level, .int o_noRings, .int o_noTones, .int o_noFuel, .int o_pieces, .ref a_o_pieceParts, .int o_drags, .ref a_o_dragCell, .ref a_o_dragBy, .ref a_o_sums, .long o_all, .int o_noPieces, .int o_noDrags, .ref a_o_shares, .ref a_o_keptFar, .ref a_o_image, .int o_kept, .ref a_o_lanes, .ref a_o_sizes, .ref a_o_items, .ref a_o_movedItems])), (a_o_sets, .inl (cyI, 8, .inl o_sets))]
def f_X7_away_L44b (k44 : Int32 → Int32 → (Nat → Int32) → Option (Int32)) (v4 : Int32) (v5 : Int32) (o_sets : Nat → Int32) : Option (Int32) :=
  if v4 < ((v5 + 1) * (v5 + 1)) then
    some v5
  else
    nm (v5 + 1) fun x_1 =>
    k44 v4 x_1 o_sets
def f_X7_away_L44 : Nat → Int32 → Int32 → (Nat → Int32) → Option (Int32)
  | 0 => fun _ _ _ => none
  | n + 1 => f_X7_away_L44b (f_X7_away_L44 n)
def f_X7_away (x1 : Int32) (o_sets : Nat → Int32) : Option (Int32) :=
  nm ((x1 / 10) - ((o_sets 0) / 10)) fun x_2 =>
  nm ((x1 - x1 / 10 * 10) - ((o_sets 0) - (o_sets 0) / 10 * 10)) fun x_3 =>
  nm (4 * ((x_2 * x_2) + (x_3 * x_3))) fun x_4 =>
  f_X7_away_L44 FU x_4 0 o_sets
abbrev rm_X7_away : Room := { frames := 0, cells := 0, slots := 0, locals := 0 }
set_option maxRecDepth 100000 in
set_option maxHeartbeats 4000000 in
theorem c_X7_away (l : Launch) (dC : Nat → ClassId) (dI : Nat → Nat → Nat) (cyI cyJ cyO : ClassId) (sz : Nat) (h_o a_o_sets a_o_ringFar a_o_ringTone a_o_currents a_o_warmths a_o_depths a_o_tape a_o_readFar a_o_readTone a_o_readSea a_o_code a_o_cellAt a_o_courseAt a_o_paceAt a_o_turnsAt a_o_slowAt a_o_fuelAt a_o_ringAt a_o_pieceParts a_o_dragCell a_o_dragBy a_o_sums a_o_shares a_o_keptFar a_o_image a_o_lanes a_o_sizes a_o_items a_o_movedItems : Nat) (o_taped : Int32) (o_at : Int32) (o_wrong : Int32) (o_level : Int32) (o_noRings : Int32) (o_noTones : Int32) (o_noFuel : Int32) (o_pieces : Int32) (o_drags : Int32) (o_all : Int64) (o_noPieces : Int32) (o_noDrags : Int32) (o_kept : Int32) (o_sets : Nat → Int32) (x1 : Int32) (post : Int32 → Prop) (hf : okP (f_X7_away x1 o_sets) post) : Ci l (dC, dI) (tyL cyI cyJ cyO) yX7_away wsX7_away rm_X7_away [.ref h_o, .int x1] sz (W_X7_away cyI cyJ cyO h_o a_o_sets a_o_ringFar a_o_ringTone a_o_currents a_o_warmths a_o_depths a_o_tape a_o_readFar a_o_readTone a_o_readSea a_o_code a_o_cellAt a_o_courseAt a_o_paceAt a_o_turnsAt a_o_slowAt a_o_fuelAt a_o_ringAt a_o_pieceParts a_o_dragCell a_o_dragBy a_o_sums a_o_shares a_o_keptFar a_o_image a_o_lanes a_o_sizes a_o_items a_o_movedItems o_taped o_at o_wrong o_level o_noRings o_noTones o_noFuel o_pieces o_drags o_all o_noPieces o_noDrags o_kept o_sets) zN (fun r (_ : Unit) => post r) (fun _ => (W_X7_away cyI cyJ cyO h_o a_o_sets a_o_ringFar a_o_ringTone a_o_currents a_o_warmths a_o_depths a_o_tape a_o_readFar a_o_readTone a_o_readSea a_o_code a_o_cellAt a_o_courseAt a_o_paceAt a_o_turnsAt a_o_slowAt a_o_fuelAt a_o_ringAt a_o_pieceParts a_o_dragCell a_o_dragBy a_o_sums a_o_shares a_o_keptFar a_o_image a_o_lanes a_o_sizes a_o_items a_o_movedItems o_taped o_at o_wrong o_level o_noRings o_noTones o_noFuel o_pieces o_drags o_all o_noPieces o_noDrags o_kept o_sets)) := by
  refine Met.ofW (cc := cX7_away) (maxL := 6) (ret := (some .int)) (by decide) rfl ?_
  intro p e s m args below meth c s₁ B hml hv
  obtain ⟨rfl, hsz, hP, hK, hD0, hZ⟩ := hv
  have hx := B.exec
  have hb := B.bytes
  have hr := B.returns
  have hts := atoms_spec (ws := wsX7_away) B.pre
  have hown : s.vm.findClass RX7 = some m.cls := findClass_of_methodNamed B.named
  have hlocks := B.notSynchronized
  subst hsz
  have hD := hD0.self (sz := s.heap.size)
  generalize hAe : va_A (W_X7_away cyI cyJ cyO h_o a_o_sets a_o_ringFar a_o_ringTone a_o_currents a_o_warmths a_o_depths a_o_tape a_o_readFar a_o_readTone a_o_readSea a_o_code a_o_cellAt a_o_courseAt a_o_paceAt a_o_turnsAt a_o_slowAt a_o_fuelAt a_o_ringAt a_o_pieceParts a_o_dragCell a_o_dragBy a_o_sums a_o_shares a_o_keptFar a_o_image a_o_lanes a_o_sizes a_o_items a_o_movedItems o_taped o_at o_wrong o_level o_noRings o_noTones o_noFuel o_pieces o_drags o_all o_noPieces o_noDrags o_kept o_sets) s.heap.size = A at hD hZ ⊢
  have hA : ∀ q : Nat, s.heap.size ≤ q → A q := fun q h => by rw [← hAe]; exact Or.inr h
  clear hAe hD0
  have hS : va_S A s.heap s.heap [] := va_S.rf
  have hl := lv_entry ([.ref h_o, .int x1]) (n := 6) (Nat.le_of_ble_eq_true rfl)
  rw [lg_entry_eq]
  generalize (lg_sl ([.ref h_o, .int x1]) ++ List.replicate (6 - (lg_sl ([.ref h_o, .int x1])).length) Slot.unset).toArray = ls at hl ⊢
  have hl : lv_has ls 6 [(0, .ref h_o), (1, .int x1)] := hl
  refine kW (fun Q hQ => ?_)
  have hq0 := hts _ (List.mem_cons_of_mem _ q_706)
  have hi7 : ∀ w ∈ u_ws RX7 TX7 42, w ∈ wsX7_away := fun w h => List.mem_cons_of_mem _ (inX7 w h)
  have hw := hf
  have w44 : ∀ (n : Nat), ∀ (v4 : Int32) (v5 : Int32) (H : Heap) (locs : List Loc), va_P (dC, dI) vwCl (W_X7_away cyI cyJ cyO h_o a_o_sets a_o_ringFar a_o_ringTone a_o_currents a_o_warmths a_o_depths a_o_tape a_o_readFar a_o_readTone a_o_readSea a_o_code a_o_cellAt a_o_courseAt a_o_paceAt a_o_turnsAt a_o_slowAt a_o_fuelAt a_o_ringAt a_o_pieceParts a_o_dragCell a_o_dragBy a_o_sums a_o_shares a_o_keptFar a_o_image a_o_lanes a_o_sizes a_o_items a_o_movedItems o_taped o_at o_wrong o_level o_noRings o_noTones o_noFuel o_pieces o_drags o_all o_noPieces o_noDrags o_kept o_sets) H → va_D A (W_X7_away cyI cyJ cyO h_o a_o_sets a_o_ringFar a_o_ringTone a_o_currents a_o_warmths a_o_depths a_o_tape a_o_readFar a_o_readTone a_o_readSea a_o_code a_o_cellAt a_o_courseAt a_o_paceAt a_o_turnsAt a_o_slowAt a_o_fuelAt a_o_ringAt a_o_pieceParts a_o_dragCell a_o_dragBy a_o_sums a_o_shares a_o_keptFar a_o_image a_o_lanes a_o_sizes a_o_items a_o_movedItems o_taped o_at o_wrong o_level o_noRings o_noTones o_noFuel o_pieces o_drags o_all o_noPieces o_noDrags o_kept o_sets) → va_S A s.heap H locs → ∀ (ls : Array Slot), lv_has ls 6 [(4, .int v4), (5, .int v5)] → okP (f_X7_away_L44 n v4 v5 o_sets) post → W p l e (headSpec wsX7_away rm_X7_away).room s m ([.ref h_o, .int x1] : List Value).toArray below meth c H locs 0 0 Q (F0 m 44 ls []) := by
    intro n
    induction n with
    | zero =>
      intro v4 v5 H locs hP hD hS ls hl hw
      exact (ok0 hw).elim
    | succ n44 ih44 =>
      intro v4 v5 H locs hP hD hS ls hl hw
      replace hw : okP (f_X7_away_L44b (f_X7_away_L44 n44) v4 v5 o_sets) post := hw
      unfold f_X7_away_L44b at hw
      refine lv_iload hx hb dX7_away_44 (lv_at hl 1 rfl) ?_
      refine lv_iconst (v := 1) hx hb dX7_away_46 (by decide) ?_
      refine lv_iadd hx hb dX7_away_47 ?_
      refine lv_iload hx hb dX7_away_48 (lv_at hl 1 rfl) ?_
      refine lv_iconst (v := 1) hx hb dX7_away_50 (by decide) ?_
      refine lv_iadd hx hb dX7_away_51 ?_
      refine lv_imul hx hb dX7_away_52 ?_
      refine lv_iload hx hb dX7_away_53 (lv_at hl 0 rfl) ?_
      refine lv_icmp_gt (tgt := 64) hx hb dX7_away_55 (by decide) (fun c_1 => ?_) (fun c_1 => ?_)
      · replace hw := okT hw c_1
        clear c_1
        refine lv_iload hx hb dX7_away_64 (lv_at hl 1 rfl) ?_
        rw [hQ]
        exact W.iret (v := v5) hx hb hr (fun t ht hW => ⟨⟨v5, (), rfl, okS hw, by rw [ht]; exact hP, va_K.moved hW.alike hK, hD⟩, hS.F ht⟩) hS.2.2 dX7_away_66
      · replace hw := okF hw c_1
        clear c_1
        obtain ⟨x_2, ex_2⟩ : ∃ y : Int32, y = v5 + 1 := ⟨_, rfl⟩
        replace hw := okN ex_2 hw
        refine lv_iinc (v := x_2) (lv' := [(5, .int x_2), (4, .int v4)]) hx hb dX7_away_58 hl (k := 1) rfl (by rw [ex_2]; rfl) (by decide) rfl (fun ls hl => ?_)
        clear ex_2
        refine lv_goto (tgt := 44) hx hb dX7_away_61 (by decide) ?_
        exact ih44 v4 x_2 _ _ hP hD hS _ (lv_sub hl [1, 0] rfl) hw
  unfold f_X7_away at hw
  have hP : va_P (dC, dI) vwCl (W_X7_away cyI cyJ cyO h_o a_o_sets a_o_ringFar a_o_ringTone a_o_currents a_o_warmths a_o_depths a_o_tape a_o_readFar a_o_readTone a_o_readSea a_o_code a_o_cellAt a_o_courseAt a_o_paceAt a_o_turnsAt a_o_slowAt a_o_fuelAt a_o_ringAt a_o_pieceParts a_o_dragCell a_o_dragBy a_o_sums a_o_shares a_o_keptFar a_o_image a_o_lanes a_o_sizes a_o_items a_o_movedItems o_taped o_at o_wrong o_level o_noRings o_noTones o_noFuel o_pieces o_drags o_all o_noPieces o_noDrags o_kept o_sets) s.heap := hP
  obtain ⟨H, hH⟩ : ∃ H, H = s.heap := ⟨_, rfl⟩
  obtain ⟨locs, hlo⟩ : ∃ x : List Loc, x = [] := ⟨_, rfl⟩
  have hP : va_P (dC, dI) vwCl (W_X7_away cyI cyJ cyO h_o a_o_sets a_o_ringFar a_o_ringTone a_o_currents a_o_warmths a_o_depths a_o_tape a_o_readFar a_o_readTone a_o_readSea a_o_code a_o_cellAt a_o_courseAt a_o_paceAt a_o_turnsAt a_o_slowAt a_o_fuelAt a_o_ringAt a_o_pieceParts a_o_dragCell a_o_dragBy a_o_sums a_o_shares a_o_keptFar a_o_image a_o_lanes a_o_sizes a_o_items a_o_movedItems o_taped o_at o_wrong o_level o_noRings o_noTones o_noFuel o_pieces o_drags o_all o_noPieces o_noDrags o_kept o_sets) H := by rw [hH]; exact hP
  have hS : va_S A s.heap H locs := by rw [hH, hlo]; exact hS
  refine kH hH hlo ?_
  clear hH hlo
  refine lv_iload_n hx hb dX7_away_0 rfl (lv_at hl 1 rfl) ?_
  refine lv_bipush (v := 10) hx hb dX7_away_1 (by decide) ?_
  refine lv_idiv hx hb dX7_away_3 (by decide) ?_
  refine lv_aload_n hx hb dX7_away_4 rfl (lv_at hl 0 rfl) ?_
  refine va_get (D := (dC, dI)) (ci := 7) (v := .ref a_o_sets) (C := RX7) (T := TX7) (N := 42) hx hb hts hi7 hown hK hP 0 rfl rfl 0 (by decide) hq0 (fun _ h9 => h9) rfl dX7_away_5 ?_
  refine lv_iconst (v := 0) hx hb dX7_away_8 (by decide) ?_
  refine va_iald (i := 0) hx hb hK hP 1 0 rfl rfl (show ¬ _ by decide) dX7_away_9 ?_
  refine lv_bipush (v := 10) hx hb dX7_away_10 (by decide) ?_
  refine lv_idiv hx hb dX7_away_12 (by decide) ?_
  refine lv_isub hx hb dX7_away_13 ?_
  refine lv_topi (fun x_3 ex_3 => ?_)
  replace hw := okN ex_3 hw
  clear ex_3
  refine lv_istore_n (lv' := [(2, .int x_3), (0, .ref h_o), (1, .int x1)]) hx hb dX7_away_14 rfl hl (by decide) rfl (fun ls hl => ?_)
  refine lv_iload_n hx hb dX7_away_15 rfl (lv_at hl 2 rfl) ?_
  refine lv_bipush (v := 10) hx hb dX7_away_16 (by decide) ?_
  refine lv_irem hx hb dX7_away_18 (by decide) ?_
  refine lv_aload_n hx hb dX7_away_19 rfl (lv_at hl 1 rfl) ?_
  refine va_get (D := (dC, dI)) (ci := 7) (v := .ref a_o_sets) (C := RX7) (T := TX7) (N := 42) hx hb hts hi7 hown hK hP 0 rfl rfl 0 (by decide) hq0 (fun _ h9 => h9) rfl dX7_away_20 ?_
  refine lv_iconst (v := 0) hx hb dX7_away_23 (by decide) ?_
  refine va_iald (i := 0) hx hb hK hP 1 0 rfl rfl (show ¬ _ by decide) dX7_away_24 ?_
  refine lv_bipush (v := 10) hx hb dX7_away_25 (by decide) ?_
  refine lv_irem hx hb dX7_away_27 (by decide) ?_
  refine lv_isub hx hb dX7_away_28 ?_
  refine lv_topi (fun x_4 ex_4 => ?_)
  replace hw := okN ex_4 hw
  clear ex_4
  refine lv_istore_n (lv' := [(3, .int x_4), (2, .int x_3), (0, .ref h_o), (1, .int x1)]) hx hb dX7_away_29 rfl hl (by decide) rfl (fun ls hl => ?_)
  refine lv_iconst (v := 4) hx hb dX7_away_30 (by decide) ?_
  refine lv_iload_n hx hb dX7_away_31 rfl (lv_at hl 1 rfl) ?_
  refine lv_iload_n hx hb dX7_away_32 rfl (lv_at hl 1 rfl) ?_
  refine lv_imul hx hb dX7_away_33 ?_
  refine lv_iload_n hx hb dX7_away_34 rfl (lv_at hl 0 rfl) ?_
  refine lv_iload_n hx hb dX7_away_35 rfl (lv_at hl 0 rfl) ?_
  refine lv_imul hx hb dX7_away_36 ?_
  refine lv_iadd hx hb dX7_away_37 ?_
  refine lv_imul hx hb dX7_away_38 ?_
  refine lv_topi (fun x_5 ex_5 => ?_)
  replace hw := okN ex_5 hw
  clear ex_5
  refine lv_istore (lv' := [(4, .int x_5), (3, .int x_4), (2, .int x_3), (0, .ref h_o), (1, .int x1)]) hx hb dX7_away_39 hl (by decide) rfl (fun ls hl => ?_)
  refine lv_iconst (v := 0) hx hb dX7_away_41 (by decide) ?_
  refine lv_istore (lv' := [(5, .int 0), (4, .int x_5), (3, .int x_4), (2, .int x_3), (0, .ref h_o), (1, .int x1)]) hx hb dX7_away_42 hl (by decide) rfl (fun ls hl => ?_)
  exact w44 FU x_5 0 _ _ hP hD hS _ (lv_sub hl [1, 0] rfl) hw
/-! ===== X7_set ===== -/
theorem dX7_set_0 : decode cX7_set 0 = .ok (.iload_n 1, 1) := by decide +kernel
theorem dX7_set_1 : decode cX7_set 1 = .ok (.i2l, 1) := by decide +kernel
theorem dX7_set_2 : decode cX7_set 2 = .ok (.lconst 0, 1) := by decide +kernel
theorem dX7_set_3 : decode cX7_set 3 = .ok (.ldc2_w 113, 3) := by decide +kernel
theorem dX7_set_6 : decode cX7_set 6 = .ok (.invokestatic 100, 3) := by decide +kernel
theorem dX7_set_9 : decode cX7_set 9 = .ok (.ifCond .ne 5, 3) := by decide +kernel
theorem dX7_set_12 : decode cX7_set 12 = .ok (.iconst (-1), 1) := by decide +kernel
theorem dX7_set_13 : decode cX7_set 13 = .ok (.ireturn, 1) := by decide +kernel
theorem dX7_set_14 : decode cX7_set 14 = .ok (.iload_n 1, 1) := by decide +kernel
theorem dX7_set_15 : decode cX7_set 15 = .ok (.iconst 2, 1) := by decide +kernel
theorem dX7_set_16 : decode cX7_set 16 = .ok (.if_icmp .ge 8, 3) := by decide +kernel
theorem dX7_set_19 : decode cX7_set 19 = .ok (.bipush 99, 2) := by decide +kernel
theorem dX7_set_21 : decode cX7_set 21 = .ok (.goto 53, 3) := by decide +kernel
theorem dX7_set_24 : decode cX7_set 24 = .ok (.iload_n 1, 1) := by decide +kernel
theorem dX7_set_25 : decode cX7_set 25 = .ok (.iconst 2, 1) := by decide +kernel
theorem dX7_set_26 : decode cX7_set 26 = .ok (.if_icmp .ne 8, 3) := by decide +kernel
theorem dX7_set_29 : decode cX7_set 29 = .ok (.bipush 6, 2) := by decide +kernel
theorem dX7_set_31 : decode cX7_set 31 = .ok (.goto 43, 3) := by decide +kernel
theorem dX7_set_34 : decode cX7_set 34 = .ok (.iload_n 1, 1) := by decide +kernel
theorem dX7_set_35 : decode cX7_set 35 = .ok (.iconst 3, 1) := by decide +kernel
theorem dX7_set_36 : decode cX7_set 36 = .ok (.if_icmp .ne 7, 3) := by decide +kernel
theorem dX7_set_39 : decode cX7_set 39 = .ok (.iconst 2, 1) := by decide +kernel
theorem dX7_set_40 : decode cX7_set 40 = .ok (.goto 34, 3) := by decide +kernel
theorem dX7_set_43 : decode cX7_set 43 = .ok (.iload_n 1, 1) := by decide +kernel
theorem dX7_set_44 : decode cX7_set 44 = .ok (.iconst 4, 1) := by decide +kernel
theorem dX7_set_45 : decode cX7_set 45 = .ok (.if_icmp .ne 7, 3) := by decide +kernel
theorem dX7_set_48 : decode cX7_set 48 = .ok (.iconst 1, 1) := by decide +kernel
theorem dX7_set_49 : decode cX7_set 49 = .ok (.goto 25, 3) := by decide +kernel
theorem dX7_set_52 : decode cX7_set 52 = .ok (.iload_n 1, 1) := by decide +kernel
theorem dX7_set_53 : decode cX7_set 53 = .ok (.iconst 5, 1) := by decide +kernel
theorem dX7_set_54 : decode cX7_set 54 = .ok (.if_icmp .ne 8, 3) := by decide +kernel
theorem dX7_set_57 : decode cX7_set 57 = .ok (.bipush 60, 2) := by decide +kernel
theorem dX7_set_59 : decode cX7_set 59 = .ok (.goto 15, 3) := by decide +kernel
theorem dX7_set_62 : decode cX7_set 62 = .ok (.iload_n 1, 1) := by decide +kernel
theorem dX7_set_63 : decode cX7_set 63 = .ok (.bipush 6, 2) := by decide +kernel
theorem dX7_set_65 : decode cX7_set 65 = .ok (.if_icmp .ne 7, 3) := by decide +kernel
theorem dX7_set_68 : decode cX7_set 68 = .ok (.iconst 3, 1) := by decide +kernel
theorem dX7_set_69 : decode cX7_set 69 = .ok (.goto 5, 3) := by decide +kernel
theorem dX7_set_72 : decode cX7_set 72 = .ok (.bipush 8, 2) := by decide +kernel
theorem dX7_set_74 : decode cX7_set 74 = .ok (.istore_n 3, 1) := by decide +kernel
theorem dX7_set_75 : decode cX7_set 75 = .ok (.iload_n 2, 1) := by decide +kernel
theorem dX7_set_76 : decode cX7_set 76 = .ok (.i2l, 1) := by decide +kernel
theorem dX7_set_77 : decode cX7_set 77 = .ok (.iload_n 1, 1) := by decide +kernel
theorem dX7_set_78 : decode cX7_set 78 = .ok (.iconst 2, 1) := by decide +kernel
theorem dX7_set_79 : decode cX7_set 79 = .ok (.if_icmp .ne 7, 3) := by decide +kernel
theorem dX7_set_82 : decode cX7_set 82 = .ok (.lconst 1, 1) := by decide +kernel
theorem dX7_set_83 : decode cX7_set 83 = .ok (.goto 4, 3) := by decide +kernel
theorem dX7_set_86 : decode cX7_set 86 = .ok (.lconst 0, 1) := by decide +kernel
theorem dX7_set_87 : decode cX7_set 87 = .ok (.iload_n 3, 1) := by decide +kernel
theorem dX7_set_88 : decode cX7_set 88 = .ok (.i2l, 1) := by decide +kernel
theorem dX7_set_89 : decode cX7_set 89 = .ok (.invokestatic 100, 3) := by decide +kernel
theorem dX7_set_92 : decode cX7_set 92 = .ok (.ifCond .ne 5, 3) := by decide +kernel
theorem dX7_set_95 : decode cX7_set 95 = .ok (.iconst (-1), 1) := by decide +kernel
theorem dX7_set_96 : decode cX7_set 96 = .ok (.ireturn, 1) := by decide +kernel
theorem dX7_set_97 : decode cX7_set 97 = .ok (.aload_n 0, 1) := by decide +kernel
theorem dX7_set_98 : decode cX7_set 98 = .ok (.getfield 7, 3) := by decide +kernel
theorem dX7_set_101 : decode cX7_set 101 = .ok (.iload_n 1, 1) := by decide +kernel
theorem dX7_set_102 : decode cX7_set 102 = .ok (.iaload, 1) := by decide +kernel
theorem dX7_set_103 : decode cX7_set 103 = .ok (.istore 4, 2) := by decide +kernel
theorem dX7_set_105 : decode cX7_set 105 = .ok (.aload_n 0, 1) := by decide +kernel
theorem dX7_set_106 : decode cX7_set 106 = .ok (.getfield 7, 3) := by decide +kernel
theorem dX7_set_109 : decode cX7_set 109 = .ok (.iload_n 1, 1) := by decide +kernel
theorem dX7_set_110 : decode cX7_set 110 = .ok (.iload_n 2, 1) := by decide +kernel
theorem dX7_set_111 : decode cX7_set 111 = .ok (.iastore, 1) := by decide +kernel
theorem dX7_set_112 : decode cX7_set 112 = .ok (.iload 4, 2) := by decide +kernel
theorem dX7_set_114 : decode cX7_set 114 = .ok (.ireturn, 1) := by decide +kernel
abbrev W_X7_set (cyI cyJ cyO : ClassId) (h_o a_o_sets a_o_ringFar a_o_ringTone a_o_currents a_o_warmths a_o_depths a_o_tape a_o_readFar a_o_readTone a_o_readSea a_o_code a_o_cellAt a_o_courseAt a_o_paceAt a_o_turnsAt a_o_slowAt a_o_fuelAt a_o_ringAt a_o_pieceParts a_o_dragCell a_o_dragBy a_o_sums a_o_shares a_o_keptFar a_o_image a_o_lanes a_o_sizes a_o_items a_o_movedItems : Nat) (o_taped : Int32) (o_at : Int32) (o_wrong : Int32) (o_level : Int32) (o_noRings : Int32) (o_noTones : Int32) (o_noFuel : Int32) (o_pieces : Int32) (o_drags : Int32) (o_all : Int64) (o_noPieces : Int32) (o_noDrags : Int32) (o_kept : Int32) (o_sets : Nat → Int32) : va_W := [(h_o, .inr (7, [.ref a_o_sets, .ref a_o_ringFar, .ref a_o_ringTone, .ref a_o_currents, .ref a_o_warmths, .ref a_o_depths, .ref a_o_tape, .int o_taped, .int o_at, .int o_wrong, .ref a_o_readFar, .ref a_o_readTone, .ref a_o_readSea, .ref a_o_code, .ref a_o_cellAt, .ref a_o_courseAt, .ref a_o_paceAt, .ref a_o_turnsAt, .ref a_o_slowAt, .ref a_o_fuelAt, .ref a_o_ringAt, .int o_level, .int o_noRings, .int o_noTones, .int o_noFuel, .int o_pieces, .ref a_o_pieceParts, .int o_drags, .ref a_o_dragCell, .ref a_o_dragBy, .ref a_o_sums, .long o_all, .int o_noPieces, .int o_noDrags, .ref a_o_shares, .ref a_o_keptFar, .ref a_o_image, .int o_kept, .ref a_o_lanes, .ref a_o_sizes, .ref a_o_items, .ref a_o_movedItems])), (a_o_sets, .inl (cyI, 8, .inl o_sets))]
def f_X7_set_B87 (v1 : Int32) (v2 : Int32) (v3 : Int32) (y0 : Int64) (y1 : Int64) (o_sets : Nat → Int32) : Option (Int32 × (Nat → Int32)) :=
  bd1 (f_X7_in y1 y0 v3.toInt64) fun r_1 =>
  if r_1 = 0 then
    some ((-1), o_sets)
  else
    chk (¬ (v1 < 0 ∨ 8 ≤ v1.toNatClampNeg)) <|
    nm (o_sets v1.toNatClampNeg) fun x_2 =>
    chk (¬ (v1 < 0 ∨ 8 ≤ v1.toNatClampNeg)) <|
    some (x_2, upd o_sets v1.toNatClampNeg v2)
def f_X7_set_B74 (v1 : Int32) (v2 : Int32) (y0 : Int32) (o_sets : Nat → Int32) : Option (Int32 × (Nat → Int32)) :=
  if v1 = 2 then
    f_X7_set_B87 v1 v2 y0 1 v2.toInt64 o_sets
  else
    f_X7_set_B87 v1 v2 y0 0 v2.toInt64 o_sets
def f_X7_set (x1 : Int32) (x2 : Int32) (o_sets : Nat → Int32) : Option (Int32 × (Nat → Int32)) :=
  bd1 (f_X7_in x1.toInt64 0 7) fun r_3 =>
  if r_3 = 0 then
    some ((-1), o_sets)
  else
    if 2 ≤ x1 then
      if x1 = 2 then
        f_X7_set_B74 x1 x2 6 o_sets
      else
        if x1 = 3 then
          f_X7_set_B74 x1 x2 2 o_sets
        else
          if x1 = 4 then
            f_X7_set_B74 x1 x2 1 o_sets
          else
            if x1 = 5 then
              f_X7_set_B74 x1 x2 60 o_sets
            else
              if x1 = 6 then
                f_X7_set_B74 x1 x2 3 o_sets
              else
                f_X7_set_B74 x1 x2 8 o_sets
    else
      f_X7_set_B74 x1 x2 99 o_sets
abbrev rm_X7_set : Room := { frames := 1, cells := 0, slots := 0, locals := 25 }
set_option maxRecDepth 100000 in
set_option maxHeartbeats 4000000 in
theorem c_X7_set (l : Launch) (dC : Nat → ClassId) (dI : Nat → Nat → Nat) (cyI cyJ cyO : ClassId) (sz : Nat) (h_o a_o_sets a_o_ringFar a_o_ringTone a_o_currents a_o_warmths a_o_depths a_o_tape a_o_readFar a_o_readTone a_o_readSea a_o_code a_o_cellAt a_o_courseAt a_o_paceAt a_o_turnsAt a_o_slowAt a_o_fuelAt a_o_ringAt a_o_pieceParts a_o_dragCell a_o_dragBy a_o_sums a_o_shares a_o_keptFar a_o_image a_o_lanes a_o_sizes a_o_items a_o_movedItems : Nat) (o_taped : Int32) (o_at : Int32) (o_wrong : Int32) (o_level : Int32) (o_noRings : Int32) (o_noTones : Int32) (o_noFuel : Int32) (o_pieces : Int32) (o_drags : Int32) (o_all : Int64) (o_noPieces : Int32) (o_noDrags : Int32) (o_kept : Int32) (o_sets : Nat → Int32) (x1 : Int32) (x2 : Int32) (post : (Int32 × (Nat → Int32)) → Prop) (hf : okP (f_X7_set x1 x2 o_sets) post) : Ci l (dC, dI) (tyL cyI cyJ cyO) yX7_set wsX7_set rm_X7_set [.ref h_o, .int x1, .int x2] sz (W_X7_set cyI cyJ cyO h_o a_o_sets a_o_ringFar a_o_ringTone a_o_currents a_o_warmths a_o_depths a_o_tape a_o_readFar a_o_readTone a_o_readSea a_o_code a_o_cellAt a_o_courseAt a_o_paceAt a_o_turnsAt a_o_slowAt a_o_fuelAt a_o_ringAt a_o_pieceParts a_o_dragCell a_o_dragBy a_o_sums a_o_shares a_o_keptFar a_o_image a_o_lanes a_o_sizes a_o_items a_o_movedItems o_taped o_at o_wrong o_level o_noRings o_noTones o_noFuel o_pieces o_drags o_all o_noPieces o_noDrags o_kept o_sets) zN (fun r u => post (r, u)) (fun u => (W_X7_set cyI cyJ cyO h_o a_o_sets a_o_ringFar a_o_ringTone a_o_currents a_o_warmths a_o_depths a_o_tape a_o_readFar a_o_readTone a_o_readSea a_o_code a_o_cellAt a_o_courseAt a_o_paceAt a_o_turnsAt a_o_slowAt a_o_fuelAt a_o_ringAt a_o_pieceParts a_o_dragCell a_o_dragBy a_o_sums a_o_shares a_o_keptFar a_o_image a_o_lanes a_o_sizes a_o_items a_o_movedItems o_taped o_at o_wrong o_level o_noRings o_noTones o_noFuel o_pieces o_drags o_all o_noPieces o_noDrags o_kept u)) := by
  refine Met.ofW (cc := cX7_set) (maxL := 5) (ret := (some .int)) (by decide) rfl ?_
  intro p e s m args below meth c s₁ B hml hv
  obtain ⟨rfl, hsz, hP, hK, hD0, hZ⟩ := hv
  have hx := B.exec
  have hb := B.bytes
  have hr := B.returns
  have hts := atoms_spec (ws := wsX7_set) B.pre
  have hown : s.vm.findClass RX7 = some m.cls := findClass_of_methodNamed B.named
  have hlocks := B.notSynchronized
  subst hsz
  have hD := hD0.self (sz := s.heap.size)
  generalize hAe : va_A (W_X7_set cyI cyJ cyO h_o a_o_sets a_o_ringFar a_o_ringTone a_o_currents a_o_warmths a_o_depths a_o_tape a_o_readFar a_o_readTone a_o_readSea a_o_code a_o_cellAt a_o_courseAt a_o_paceAt a_o_turnsAt a_o_slowAt a_o_fuelAt a_o_ringAt a_o_pieceParts a_o_dragCell a_o_dragBy a_o_sums a_o_shares a_o_keptFar a_o_image a_o_lanes a_o_sizes a_o_items a_o_movedItems o_taped o_at o_wrong o_level o_noRings o_noTones o_noFuel o_pieces o_drags o_all o_noPieces o_noDrags o_kept o_sets) s.heap.size = A at hD hZ ⊢
  have hA : ∀ q : Nat, s.heap.size ≤ q → A q := fun q h => by rw [← hAe]; exact Or.inr h
  clear hAe hD0
  have hS : va_S A s.heap s.heap [] := va_S.rf
  have hl := lv_entry ([.ref h_o, .int x1, .int x2]) (n := 5) (Nat.le_of_ble_eq_true rfl)
  rw [lg_entry_eq]
  generalize (lg_sl ([.ref h_o, .int x1, .int x2]) ++ List.replicate (5 - (lg_sl ([.ref h_o, .int x1, .int x2])).length) Slot.unset).toArray = ls at hl ⊢
  have hl : lv_has ls 5 [(0, .ref h_o), (1, .int x1), (2, .int x2)] := hl
  refine kW (fun Q hQ => ?_)
  have hq0 := hts _ (List.mem_cons_of_mem _ q_706)
  have hi7 : ∀ w ∈ u_ws RX7 TX7 42, w ∈ wsX7_set := fun w h => List.mem_cons_of_mem _ (inX7 w h)
  have hq2 := hts _ (List.mem_cons_of_mem _ q_837)
  have hw := hf
  have w87 : ∀ (v1 : Int32) (v2 : Int32) (v3 : Int32) (y0 : Int64) (y1 : Int64) (o_sets : Nat → Int32) (H : Heap) (locs : List Loc), va_P (dC, dI) vwCl (W_X7_set cyI cyJ cyO h_o a_o_sets a_o_ringFar a_o_ringTone a_o_currents a_o_warmths a_o_depths a_o_tape a_o_readFar a_o_readTone a_o_readSea a_o_code a_o_cellAt a_o_courseAt a_o_paceAt a_o_turnsAt a_o_slowAt a_o_fuelAt a_o_ringAt a_o_pieceParts a_o_dragCell a_o_dragBy a_o_sums a_o_shares a_o_keptFar a_o_image a_o_lanes a_o_sizes a_o_items a_o_movedItems o_taped o_at o_wrong o_level o_noRings o_noTones o_noFuel o_pieces o_drags o_all o_noPieces o_noDrags o_kept o_sets) H → va_D A (W_X7_set cyI cyJ cyO h_o a_o_sets a_o_ringFar a_o_ringTone a_o_currents a_o_warmths a_o_depths a_o_tape a_o_readFar a_o_readTone a_o_readSea a_o_code a_o_cellAt a_o_courseAt a_o_paceAt a_o_turnsAt a_o_slowAt a_o_fuelAt a_o_ringAt a_o_pieceParts a_o_dragCell a_o_dragBy a_o_sums a_o_shares a_o_keptFar a_o_image a_o_lanes a_o_sizes a_o_items a_o_movedItems o_taped o_at o_wrong o_level o_noRings o_noTones o_noFuel o_pieces o_drags o_all o_noPieces o_noDrags o_kept o_sets) → va_S A s.heap H locs → ∀ (ls : Array Slot), lv_has ls 5 [(0, .ref h_o), (1, .int v1), (2, .int v2), (3, .int v3)] → okP (f_X7_set_B87 v1 v2 v3 y0 y1 o_sets) post → W p l e (headSpec wsX7_set rm_X7_set).room s m ([.ref h_o, .int x1, .int x2] : List Value).toArray below meth c H locs 0 0 Q (F0 m 87 ls [.long y0, .long y1]) := by
    intro v1 v2 v3 y0 y1 o_sets H locs hP hD hS ls hl hw
    unfold f_X7_set_B87 at hw
    refine lv_iload_n hx hb dX7_set_87 rfl (lv_at hl 3 rfl) ?_
    refine lv_i2l (v := v3.toInt64) hx hb dX7_set_88 rfl ?_
    have hFc := va_free (wc := []) hD hS hA [] rfl
    refine kp_i (va_runS (As := [.long y1, .long y0, .long v3.toInt64]) (rest := []) ⟨hx, hb, hml, hown, hts⟩ (c_X7_in l dC dI cyI cyJ cyO H.size y1 y0 v3.toInt64 _ (okb1 hw)) (va_cwS 3 hts (gdS (fun w h => List.mem_cons_of_mem _ h) q_838 q_839 q_8 q_840) rfl rfl rfl (by decide +kernel) ⟨Nat.le_of_ble_eq_true rfl, Nat.le_of_ble_eq_true rfl⟩) (kpre zN_ok hK va_P0 va_D0 trivial hS hFc) rfl rfl hl.1 rfl (lv_room (Nat.le_of_ble_eq_true rfl)) dX7_set_89 ⟨Nat.le_of_ble_eq_true rfl, Nat.le_of_ble_eq_true rfl⟩) hP hD hS hFc (fun r_1 H locs hw hP hS => ?_)
    try dsimp only at hw
    clear hFc
    refine lv_if_ne (tgt := 97) hx hb dX7_set_92 (by decide) (fun c_2 => ?_) (fun c_2 => ?_)
    · replace hw := okF hw c_2
      clear c_2
      refine lv_aload_n hx hb dX7_set_97 rfl (lv_at hl 0 rfl) ?_
      refine va_get (D := (dC, dI)) (ci := 7) (v := .ref a_o_sets) (C := RX7) (T := TX7) (N := 42) hx hb hts hi7 hown hK hP 0 rfl rfl 0 (by decide) hq0 (fun _ h9 => h9) rfl dX7_set_98 ?_
      refine lv_iload_n hx hb dX7_set_101 rfl (lv_at hl 1 rfl) ?_
      obtain ⟨h_3, hw⟩ := okC hw
      refine va_iald (i := v1) hx hb hK hP 1 0 rfl rfl h_3 dX7_set_102 ?_
      refine lv_topi (fun x_4 ex_4 => ?_)
      replace hw := okN ex_4 hw
      clear ex_4
      refine lv_istore (lv' := [(4, .int x_4), (0, .ref h_o), (1, .int v1), (2, .int v2), (3, .int v3)]) hx hb dX7_set_103 hl (by decide) rfl (fun ls hl => ?_)
      refine lv_aload_n hx hb dX7_set_105 rfl (lv_at hl 1 rfl) ?_
      refine va_get (D := (dC, dI)) (ci := 7) (v := .ref a_o_sets) (C := RX7) (T := TX7) (N := 42) hx hb hts hi7 hown hK hP 0 rfl rfl 0 (by decide) hq0 (fun _ h9 => h9) rfl dX7_set_106 ?_
      refine lv_iload_n hx hb dX7_set_109 rfl (lv_at hl 2 rfl) ?_
      refine lv_iload_n hx hb dX7_set_110 rfl (lv_at hl 3 rfl) ?_
      obtain ⟨h_5, hw⟩ := okC hw
      refine va_iast (i := v1) (x := v2) hx hb hK hP hD hS 1 0 rfl rfl h_5 dX7_set_111 (fun H locs hP hD hS => ?_)
      have hP : va_P (dC, dI) vwCl (W_X7_set cyI cyJ cyO h_o a_o_sets a_o_ringFar a_o_ringTone a_o_currents a_o_warmths a_o_depths a_o_tape a_o_readFar a_o_readTone a_o_readSea a_o_code a_o_cellAt a_o_courseAt a_o_paceAt a_o_turnsAt a_o_slowAt a_o_fuelAt a_o_ringAt a_o_pieceParts a_o_dragCell a_o_dragBy a_o_sums a_o_shares a_o_keptFar a_o_image a_o_lanes a_o_sizes a_o_items a_o_movedItems o_taped o_at o_wrong o_level o_noRings o_noTones o_noFuel o_pieces o_drags o_all o_noPieces o_noDrags o_kept (upd o_sets v1.toNatClampNeg v2)) H := hP
      have hD : va_D A (W_X7_set cyI cyJ cyO h_o a_o_sets a_o_ringFar a_o_ringTone a_o_currents a_o_warmths a_o_depths a_o_tape a_o_readFar a_o_readTone a_o_readSea a_o_code a_o_cellAt a_o_courseAt a_o_paceAt a_o_turnsAt a_o_slowAt a_o_fuelAt a_o_ringAt a_o_pieceParts a_o_dragCell a_o_dragBy a_o_sums a_o_shares a_o_keptFar a_o_image a_o_lanes a_o_sizes a_o_items a_o_movedItems o_taped o_at o_wrong o_level o_noRings o_noTones o_noFuel o_pieces o_drags o_all o_noPieces o_noDrags o_kept (upd o_sets v1.toNatClampNeg v2)) := hD
      refine lv_iload hx hb dX7_set_112 (lv_at hl 0 rfl) ?_
      rw [hQ]
      exact W.iret (v := x_4) hx hb hr (fun t ht hW => ⟨⟨x_4, (upd o_sets v1.toNatClampNeg v2), rfl, okS hw, by rw [ht]; exact hP, va_K.moved hW.alike hK, hD⟩, hS.F ht⟩) hS.2.2 dX7_set_114
    · replace hw := okT hw c_2
      clear c_2
      refine lv_iconst (v := (-1)) hx hb dX7_set_95 (by decide) ?_
      rw [hQ]
      exact W.iret (v := (-1)) hx hb hr (fun t ht hW => ⟨⟨(-1), o_sets, rfl, okS hw, by rw [ht]; exact hP, va_K.moved hW.alike hK, hD⟩, hS.F ht⟩) hS.2.2 dX7_set_96
  have w74 : ∀ (v1 : Int32) (v2 : Int32) (y0 : Int32) (o_sets : Nat → Int32) (H : Heap) (locs : List Loc), va_P (dC, dI) vwCl (W_X7_set cyI cyJ cyO h_o a_o_sets a_o_ringFar a_o_ringTone a_o_currents a_o_warmths a_o_depths a_o_tape a_o_readFar a_o_readTone a_o_readSea a_o_code a_o_cellAt a_o_courseAt a_o_paceAt a_o_turnsAt a_o_slowAt a_o_fuelAt a_o_ringAt a_o_pieceParts a_o_dragCell a_o_dragBy a_o_sums a_o_shares a_o_keptFar a_o_image a_o_lanes a_o_sizes a_o_items a_o_movedItems o_taped o_at o_wrong o_level o_noRings o_noTones o_noFuel o_pieces o_drags o_all o_noPieces o_noDrags o_kept o_sets) H → va_D A (W_X7_set cyI cyJ cyO h_o a_o_sets a_o_ringFar a_o_ringTone a_o_currents a_o_warmths a_o_depths a_o_tape a_o_readFar a_o_readTone a_o_readSea a_o_code a_o_cellAt a_o_courseAt a_o_paceAt a_o_turnsAt a_o_slowAt a_o_fuelAt a_o_ringAt a_o_pieceParts a_o_dragCell a_o_dragBy a_o_sums a_o_shares a_o_keptFar a_o_image a_o_lanes a_o_sizes a_o_items a_o_movedItems o_taped o_at o_wrong o_level o_noRings o_noTones o_noFuel o_pieces o_drags o_all o_noPieces o_noDrags o_kept o_sets) → va_S A s.heap H locs → ∀ (ls : Array Slot), lv_has ls 5 [(0, .ref h_o), (1, .int v1), (2, .int v2)] → okP (f_X7_set_B74 v1 v2 y0 o_sets) post → W p l e (headSpec wsX7_set rm_X7_set).room s m ([.ref h_o, .int x1, .int x2] : List Value).toArray below meth c H locs 0 0 Q (F0 m 74 ls [.int y0]) := by
    intro v1 v2 y0 o_sets H locs hP hD hS ls hl hw
    unfold f_X7_set_B74 at hw
    refine lv_istore_n (lv' := [(3, .int y0), (0, .ref h_o), (1, .int v1), (2, .int v2)]) hx hb dX7_set_74 rfl hl (by decide) rfl (fun ls hl => ?_)
    refine lv_iload_n hx hb dX7_set_75 rfl (lv_at hl 3 rfl) ?_
    refine lv_i2l (v := v2.toInt64) hx hb dX7_set_76 rfl ?_
    refine lv_iload_n hx hb dX7_set_77 rfl (lv_at hl 2 rfl) ?_
    refine lv_iconst (v := 2) hx hb dX7_set_78 (by decide) ?_
    refine lv_icmp_ne (tgt := 86) hx hb dX7_set_79 (by decide) (fun c_6 => ?_) (fun c_6 => ?_)
    · replace hw := okF hw c_6
      clear c_6
      refine lv_lconst (v := 0) hx hb dX7_set_86 (by decide) ?_
      exact w87 v1 v2 y0 0 v2.toInt64 o_sets _ _ hP hD hS _ (lv_sub hl [1, 2, 3, 0] rfl) hw
    · replace hw := okT hw c_6
      clear c_6
      refine lv_lconst (v := 1) hx hb dX7_set_82 (by decide) ?_
      refine lv_goto (tgt := 87) hx hb dX7_set_83 (by decide) ?_
      exact w87 v1 v2 y0 1 v2.toInt64 o_sets _ _ hP hD hS _ (lv_sub hl [1, 2, 3, 0] rfl) hw
  unfold f_X7_set at hw
  have hP : va_P (dC, dI) vwCl (W_X7_set cyI cyJ cyO h_o a_o_sets a_o_ringFar a_o_ringTone a_o_currents a_o_warmths a_o_depths a_o_tape a_o_readFar a_o_readTone a_o_readSea a_o_code a_o_cellAt a_o_courseAt a_o_paceAt a_o_turnsAt a_o_slowAt a_o_fuelAt a_o_ringAt a_o_pieceParts a_o_dragCell a_o_dragBy a_o_sums a_o_shares a_o_keptFar a_o_image a_o_lanes a_o_sizes a_o_items a_o_movedItems o_taped o_at o_wrong o_level o_noRings o_noTones o_noFuel o_pieces o_drags o_all o_noPieces o_noDrags o_kept o_sets) s.heap := hP
  obtain ⟨H, hH⟩ : ∃ H, H = s.heap := ⟨_, rfl⟩
  obtain ⟨locs, hlo⟩ : ∃ x : List Loc, x = [] := ⟨_, rfl⟩
  have hP : va_P (dC, dI) vwCl (W_X7_set cyI cyJ cyO h_o a_o_sets a_o_ringFar a_o_ringTone a_o_currents a_o_warmths a_o_depths a_o_tape a_o_readFar a_o_readTone a_o_readSea a_o_code a_o_cellAt a_o_courseAt a_o_paceAt a_o_turnsAt a_o_slowAt a_o_fuelAt a_o_ringAt a_o_pieceParts a_o_dragCell a_o_dragBy a_o_sums a_o_shares a_o_keptFar a_o_image a_o_lanes a_o_sizes a_o_items a_o_movedItems o_taped o_at o_wrong o_level o_noRings o_noTones o_noFuel o_pieces o_drags o_all o_noPieces o_noDrags o_kept o_sets) H := by rw [hH]; exact hP
  have hS : va_S A s.heap H locs := by rw [hH, hlo]; exact hS
  refine kH hH hlo ?_
  clear hH hlo
  refine lv_iload_n hx hb dX7_set_0 rfl (lv_at hl 1 rfl) ?_
  refine lv_i2l (v := x1.toInt64) hx hb dX7_set_1 rfl ?_
  refine lv_lconst (v := 0) hx hb dX7_set_2 (by decide) ?_
  refine lv_ldc2 (v := 7) hx hb hown hq2 dX7_set_3 ?_
  have hFc := va_free (wc := []) hD hS hA [] rfl
  refine kp_i (va_runS (As := [.long x1.toInt64, .long 0, .long 7]) (rest := []) ⟨hx, hb, hml, hown, hts⟩ (c_X7_in l dC dI cyI cyJ cyO H.size x1.toInt64 0 7 _ (okb1 hw)) (va_cwS 3 hts (gdS (fun w h => List.mem_cons_of_mem _ h) q_838 q_839 q_8 q_840) rfl rfl rfl (by decide +kernel) ⟨Nat.le_of_ble_eq_true rfl, Nat.le_of_ble_eq_true rfl⟩) (kpre zN_ok hK va_P0 va_D0 trivial hS hFc) rfl rfl hl.1 rfl (lv_room (Nat.le_of_ble_eq_true rfl)) dX7_set_6 ⟨Nat.le_of_ble_eq_true rfl, Nat.le_of_ble_eq_true rfl⟩) hP hD hS hFc (fun r_7 H locs hw hP hS => ?_)
  try dsimp only at hw
  clear hFc
  refine lv_if_ne (tgt := 14) hx hb dX7_set_9 (by decide) (fun c_8 => ?_) (fun c_8 => ?_)
  · replace hw := okF hw c_8
    clear c_8
    refine lv_iload_n hx hb dX7_set_14 rfl (lv_at hl 1 rfl) ?_
    refine lv_iconst (v := 2) hx hb dX7_set_15 (by decide) ?_
    refine lv_icmp_ge (tgt := 24) hx hb dX7_set_16 (by decide) (fun c_9 => ?_) (fun c_9 => ?_)
    · replace hw := okT hw c_9
      clear c_9
      refine lv_iload_n hx hb dX7_set_24 rfl (lv_at hl 1 rfl) ?_
      refine lv_iconst (v := 2) hx hb dX7_set_25 (by decide) ?_
      refine lv_icmp_ne (tgt := 34) hx hb dX7_set_26 (by decide) (fun c_10 => ?_) (fun c_10 => ?_)
      · replace hw := okF hw c_10
        clear c_10
        refine lv_iload_n hx hb dX7_set_34 rfl (lv_at hl 1 rfl) ?_
        refine lv_iconst (v := 3) hx hb dX7_set_35 (by decide) ?_
        refine lv_icmp_ne (tgt := 43) hx hb dX7_set_36 (by decide) (fun c_11 => ?_) (fun c_11 => ?_)
        · replace hw := okF hw c_11
          clear c_11
          refine lv_iload_n hx hb dX7_set_43 rfl (lv_at hl 1 rfl) ?_
          refine lv_iconst (v := 4) hx hb dX7_set_44 (by decide) ?_
          refine lv_icmp_ne (tgt := 52) hx hb dX7_set_45 (by decide) (fun c_12 => ?_) (fun c_12 => ?_)
          · replace hw := okF hw c_12
            clear c_12
            refine lv_iload_n hx hb dX7_set_52 rfl (lv_at hl 1 rfl) ?_
            refine lv_iconst (v := 5) hx hb dX7_set_53 (by decide) ?_
            refine lv_icmp_ne (tgt := 62) hx hb dX7_set_54 (by decide) (fun c_13 => ?_) (fun c_13 => ?_)
            · replace hw := okF hw c_13
              clear c_13
              refine lv_iload_n hx hb dX7_set_62 rfl (lv_at hl 1 rfl) ?_
              refine lv_bipush (v := 6) hx hb dX7_set_63 (by decide) ?_
              refine lv_icmp_ne (tgt := 72) hx hb dX7_set_65 (by decide) (fun c_14 => ?_) (fun c_14 => ?_)
              · replace hw := okF hw c_14
                clear c_14
                refine lv_bipush (v := 8) hx hb dX7_set_72 (by decide) ?_
                exact w74 x1 x2 8 o_sets _ _ hP hD hS _ (lv_sub hl [0, 1, 2] rfl) hw
              · replace hw := okT hw c_14
                clear c_14
                refine lv_iconst (v := 3) hx hb dX7_set_68 (by decide) ?_
                refine lv_goto (tgt := 74) hx hb dX7_set_69 (by decide) ?_
                exact w74 x1 x2 3 o_sets _ _ hP hD hS _ (lv_sub hl [0, 1, 2] rfl) hw
            · replace hw := okT hw c_13
              clear c_13
              refine lv_bipush (v := 60) hx hb dX7_set_57 (by decide) ?_
              refine lv_goto (tgt := 74) hx hb dX7_set_59 (by decide) ?_
              exact w74 x1 x2 60 o_sets _ _ hP hD hS _ (lv_sub hl [0, 1, 2] rfl) hw
          · replace hw := okT hw c_12
            clear c_12
            refine lv_iconst (v := 1) hx hb dX7_set_48 (by decide) ?_
            refine lv_goto (tgt := 74) hx hb dX7_set_49 (by decide) ?_
            exact w74 x1 x2 1 o_sets _ _ hP hD hS _ (lv_sub hl [0, 1, 2] rfl) hw
        · replace hw := okT hw c_11
          clear c_11
          refine lv_iconst (v := 2) hx hb dX7_set_39 (by decide) ?_
          refine lv_goto (tgt := 74) hx hb dX7_set_40 (by decide) ?_
          exact w74 x1 x2 2 o_sets _ _ hP hD hS _ (lv_sub hl [0, 1, 2] rfl) hw
      · replace hw := okT hw c_10
        clear c_10
        refine lv_bipush (v := 6) hx hb dX7_set_29 (by decide) ?_
        refine lv_goto (tgt := 74) hx hb dX7_set_31 (by decide) ?_
        exact w74 x1 x2 6 o_sets _ _ hP hD hS _ (lv_sub hl [0, 1, 2] rfl) hw
    · replace hw := okF hw c_9
      clear c_9
      refine lv_bipush (v := 99) hx hb dX7_set_19 (by decide) ?_
      refine lv_goto (tgt := 74) hx hb dX7_set_21 (by decide) ?_
      exact w74 x1 x2 99 o_sets _ _ hP hD hS _ (lv_sub hl [0, 1, 2] rfl) hw
  · replace hw := okT hw c_8
    clear c_8
    refine lv_iconst (v := (-1)) hx hb dX7_set_12 (by decide) ?_
    rw [hQ]
    exact W.iret (v := (-1)) hx hb hr (fun t ht hW => ⟨⟨(-1), o_sets, rfl, okS hw, by rw [ht]; exact hP, va_K.moved hW.alike hK, hD⟩, hS.F ht⟩) hS.2.2 dX7_set_13
/-! ===== X7_far ===== -/
theorem dX7_far_0 : decode cX7_far 0 = .ok (.iload_n 1, 1) := by decide +kernel
theorem dX7_far_1 : decode cX7_far 1 = .ok (.invokestatic 115, 3) := by decide +kernel
theorem dX7_far_4 : decode cX7_far 4 = .ok (.ifCond .eq 11, 3) := by decide +kernel
theorem dX7_far_7 : decode cX7_far 7 = .ok (.aload_n 0, 1) := by decide +kernel
theorem dX7_far_8 : decode cX7_far 8 = .ok (.iload_n 1, 1) := by decide +kernel
theorem dX7_far_9 : decode cX7_far 9 = .ok (.invokevirtual 119, 3) := by decide +kernel
theorem dX7_far_12 : decode cX7_far 12 = .ok (.goto 4, 3) := by decide +kernel
theorem dX7_far_15 : decode cX7_far 15 = .ok (.iconst (-1), 1) := by decide +kernel
theorem dX7_far_16 : decode cX7_far 16 = .ok (.ireturn, 1) := by decide +kernel
abbrev W_X7_far (cyI cyJ cyO : ClassId) (h_o a_o_sets a_o_ringFar a_o_ringTone a_o_currents a_o_warmths a_o_depths a_o_tape a_o_readFar a_o_readTone a_o_readSea a_o_code a_o_cellAt a_o_courseAt a_o_paceAt a_o_turnsAt a_o_slowAt a_o_fuelAt a_o_ringAt a_o_pieceParts a_o_dragCell a_o_dragBy a_o_sums a_o_shares a_o_keptFar a_o_image a_o_lanes a_o_sizes a_o_items a_o_movedItems : Nat) (o_taped : Int32) (o_at : Int32) (o_wrong : Int32) (o_level : Int32) (o_noRings : Int32) (o_noTones : Int32) (o_noFuel : Int32) (o_pieces : Int32) (o_drags : Int32) (o_all : Int64) (o_noPieces : Int32) (o_noDrags : Int32) (o_kept : Int32) (o_sets : Nat → Int32) : va_W := [(h_o, .inr (7, [.ref a_o_sets, .ref a_o_ringFar, .ref a_o_ringTone, .ref a_o_currents, .ref a_o_warmths, .ref a_o_depths, .ref a_o_tape, .int o_taped, .int o_at, .int o_wrong, .ref a_o_readFar, .ref a_o_readTone, .ref a_o_readSea, .ref a_o_code, .ref a_o_cellAt, .ref a_o_courseAt, .ref a_o_paceAt, .ref a_o_turnsAt, .ref a_o_slowAt, .ref a_o_fuelAt, .ref a_o_ringAt, .int o_level, .int o_noRings, .int o_noTones, .int o_noFuel, .int o_pieces, .ref a_o_pieceParts, .int o_drags, .ref a_o_dragCell, .ref a_o_dragBy, .ref a_o_sums, .long o_all, .int o_noPieces, .int o_noDrags, .ref a_o_shares, .ref a_o_keptFar, .ref a_o_image, .int o_kept, .ref a_o_lanes, .ref a_o_sizes, .ref a_o_items, .ref a_o_movedItems])), (a_o_sets, .inl (cyI, 8, .inl o_sets))]
def f_X7_far (x1 : Int32) (o_sets : Nat → Int32) : Option (Int32) :=
  bd1 (f_X7_isCell x1) fun r_1 =>
  if r_1 = 0 then
    some (-1)
  else
    bd1 (f_X7_away x1 o_sets) fun r_2 =>
    some r_2
abbrev rm_X7_far : Room := { frames := 2, cells := 0, slots := 0, locals := 45 }
set_option maxRecDepth 100000 in
set_option maxHeartbeats 4000000 in
theorem c_X7_far (l : Launch) (dC : Nat → ClassId) (dI : Nat → Nat → Nat) (cyI cyJ cyO : ClassId) (sz : Nat) (h_o a_o_sets a_o_ringFar a_o_ringTone a_o_currents a_o_warmths a_o_depths a_o_tape a_o_readFar a_o_readTone a_o_readSea a_o_code a_o_cellAt a_o_courseAt a_o_paceAt a_o_turnsAt a_o_slowAt a_o_fuelAt a_o_ringAt a_o_pieceParts a_o_dragCell a_o_dragBy a_o_sums a_o_shares a_o_keptFar a_o_image a_o_lanes a_o_sizes a_o_items a_o_movedItems : Nat) (o_taped : Int32) (o_at : Int32) (o_wrong : Int32) (o_level : Int32) (o_noRings : Int32) (o_noTones : Int32) (o_noFuel : Int32) (o_pieces : Int32) (o_drags : Int32) (o_all : Int64) (o_noPieces : Int32) (o_noDrags : Int32) (o_kept : Int32) (o_sets : Nat → Int32) (x1 : Int32) (post : Int32 → Prop) (hf : okP (f_X7_far x1 o_sets) post) : Ci l (dC, dI) (tyL cyI cyJ cyO) yX7_far wsX7_far rm_X7_far [.ref h_o, .int x1] sz (W_X7_far cyI cyJ cyO h_o a_o_sets a_o_ringFar a_o_ringTone a_o_currents a_o_warmths a_o_depths a_o_tape a_o_readFar a_o_readTone a_o_readSea a_o_code a_o_cellAt a_o_courseAt a_o_paceAt a_o_turnsAt a_o_slowAt a_o_fuelAt a_o_ringAt a_o_pieceParts a_o_dragCell a_o_dragBy a_o_sums a_o_shares a_o_keptFar a_o_image a_o_lanes a_o_sizes a_o_items a_o_movedItems o_taped o_at o_wrong o_level o_noRings o_noTones o_noFuel o_pieces o_drags o_all o_noPieces o_noDrags o_kept o_sets) zN (fun r (_ : Unit) => post r) (fun _ => (W_X7_far cyI cyJ cyO h_o a_o_sets a_o_ringFar a_o_ringTone a_o_currents a_o_warmths a_o_depths a_o_tape a_o_readFar a_o_readTone a_o_readSea a_o_code a_o_cellAt a_o_courseAt a_o_paceAt a_o_turnsAt a_o_slowAt a_o_fuelAt a_o_ringAt a_o_pieceParts a_o_dragCell a_o_dragBy a_o_sums a_o_shares a_o_keptFar a_o_image a_o_lanes a_o_sizes a_o_items a_o_movedItems o_taped o_at o_wrong o_level o_noRings o_noTones o_noFuel o_pieces o_drags o_all o_noPieces o_noDrags o_kept o_sets)) := by
  refine Met.ofW (cc := cX7_far) (maxL := 2) (ret := (some .int)) (by decide) rfl ?_
  intro p e s m args below meth c s₁ B hml hv
  obtain ⟨rfl, hsz, hP, hK, hD0, hZ⟩ := hv
  have hx := B.exec
  have hb := B.bytes
  have hr := B.returns
  have hts := atoms_spec (ws := wsX7_far) B.pre
  have hown : s.vm.findClass RX7 = some m.cls := findClass_of_methodNamed B.named
  have hlocks := B.notSynchronized
  subst hsz
  have hD := hD0.self (sz := s.heap.size)
  generalize hAe : va_A (W_X7_far cyI cyJ cyO h_o a_o_sets a_o_ringFar a_o_ringTone a_o_currents a_o_warmths a_o_depths a_o_tape a_o_readFar a_o_readTone a_o_readSea a_o_code a_o_cellAt a_o_courseAt a_o_paceAt a_o_turnsAt a_o_slowAt a_o_fuelAt a_o_ringAt a_o_pieceParts a_o_dragCell a_o_dragBy a_o_sums a_o_shares a_o_keptFar a_o_image a_o_lanes a_o_sizes a_o_items a_o_movedItems o_taped o_at o_wrong o_level o_noRings o_noTones o_noFuel o_pieces o_drags o_all o_noPieces o_noDrags o_kept o_sets) s.heap.size = A at hD hZ ⊢
  have hA : ∀ q : Nat, s.heap.size ≤ q → A q := fun q h => by rw [← hAe]; exact Or.inr h
  clear hAe hD0
  have hS : va_S A s.heap s.heap [] := va_S.rf
  have hl := lv_entry ([.ref h_o, .int x1]) (n := 2) (Nat.le_of_ble_eq_true rfl)
  rw [lg_entry_eq]
  generalize (lg_sl ([.ref h_o, .int x1]) ++ List.replicate (2 - (lg_sl ([.ref h_o, .int x1])).length) Slot.unset).toArray = ls at hl ⊢
  have hl : lv_has ls 2 [(0, .ref h_o), (1, .int x1)] := hl
  refine kW (fun Q hQ => ?_)
  have hw := hf
  unfold f_X7_far at hw
  have hP : va_P (dC, dI) vwCl (W_X7_far cyI cyJ cyO h_o a_o_sets a_o_ringFar a_o_ringTone a_o_currents a_o_warmths a_o_depths a_o_tape a_o_readFar a_o_readTone a_o_readSea a_o_code a_o_cellAt a_o_courseAt a_o_paceAt a_o_turnsAt a_o_slowAt a_o_fuelAt a_o_ringAt a_o_pieceParts a_o_dragCell a_o_dragBy a_o_sums a_o_shares a_o_keptFar a_o_image a_o_lanes a_o_sizes a_o_items a_o_movedItems o_taped o_at o_wrong o_level o_noRings o_noTones o_noFuel o_pieces o_drags o_all o_noPieces o_noDrags o_kept o_sets) s.heap := hP
  obtain ⟨H, hH⟩ : ∃ H, H = s.heap := ⟨_, rfl⟩
  obtain ⟨locs, hlo⟩ : ∃ x : List Loc, x = [] := ⟨_, rfl⟩
  have hP : va_P (dC, dI) vwCl (W_X7_far cyI cyJ cyO h_o a_o_sets a_o_ringFar a_o_ringTone a_o_currents a_o_warmths a_o_depths a_o_tape a_o_readFar a_o_readTone a_o_readSea a_o_code a_o_cellAt a_o_courseAt a_o_paceAt a_o_turnsAt a_o_slowAt a_o_fuelAt a_o_ringAt a_o_pieceParts a_o_dragCell a_o_dragBy a_o_sums a_o_shares a_o_keptFar a_o_image a_o_lanes a_o_sizes a_o_items a_o_movedItems o_taped o_at o_wrong o_level o_noRings o_noTones o_noFuel o_pieces o_drags o_all o_noPieces o_noDrags o_kept o_sets) H := by rw [hH]; exact hP
  have hS : va_S A s.heap H locs := by rw [hH, hlo]; exact hS
  refine kH hH hlo ?_
  clear hH hlo
  refine lv_iload_n hx hb dX7_far_0 rfl (lv_at hl 1 rfl) ?_
  have hFc := va_free (wc := []) hD hS hA [] rfl
  refine kp_i (va_runS (As := [.int x1]) (rest := []) ⟨hx, hb, hml, hown, hts⟩ (c_X7_isCell l dC dI cyI cyJ cyO H.size x1 _ (okb1 hw)) (va_cwS 1 hts (gdS (fun w h => List.mem_cons_of_mem _ h) q_845 q_846 q_8 q_847) rfl rfl rfl (by decide +kernel) ⟨Nat.le_of_ble_eq_true rfl, Nat.le_of_ble_eq_true rfl⟩) (kpre zN_ok hK va_P0 va_D0 trivial hS hFc) rfl rfl hl.1 rfl (lv_room (Nat.le_of_ble_eq_true rfl)) dX7_far_1 ⟨Nat.le_of_ble_eq_true rfl, Nat.le_of_ble_eq_true rfl⟩) hP hD hS hFc (fun r_1 H locs hw hP hS => ?_)
  try dsimp only at hw
  clear hFc
  refine lv_if_eq (tgt := 15) hx hb dX7_far_4 (by decide) (fun c_2 => ?_) (fun c_2 => ?_)
  · replace hw := okT hw c_2
    clear c_2
    refine lv_iconst (v := (-1)) hx hb dX7_far_15 (by decide) ?_
    rw [hQ]
    exact W.iret (v := (-1)) hx hb hr (fun t ht hW => ⟨⟨(-1), (), rfl, okS hw, by rw [ht]; exact hP, va_K.moved hW.alike hK, hD⟩, hS.F ht⟩) hS.2.2 dX7_far_16
  · replace hw := okF hw c_2
    clear c_2
    refine lv_aload_n hx hb dX7_far_7 rfl (lv_at hl 0 rfl) ?_
    refine lv_iload_n hx hb dX7_far_8 rfl (lv_at hl 1 rfl) ?_
    have hPc := hP.sub (ws' := (W_X7_away cyI cyJ cyO h_o a_o_sets a_o_ringFar a_o_ringTone a_o_currents a_o_warmths a_o_depths a_o_tape a_o_readFar a_o_readTone a_o_readSea a_o_code a_o_cellAt a_o_courseAt a_o_paceAt a_o_turnsAt a_o_slowAt a_o_fuelAt a_o_ringAt a_o_pieceParts a_o_dragCell a_o_dragBy a_o_sums a_o_shares a_o_keptFar a_o_image a_o_lanes a_o_sizes a_o_items a_o_movedItems o_taped o_at o_wrong o_level o_noRings o_noTones o_noFuel o_pieces o_drags o_all o_noPieces o_noDrags o_kept o_sets)) [0, 1] rfl
    have hDc := hD.sub (ws' := (W_X7_away cyI cyJ cyO h_o a_o_sets a_o_ringFar a_o_ringTone a_o_currents a_o_warmths a_o_depths a_o_tape a_o_readFar a_o_readTone a_o_readSea a_o_code a_o_cellAt a_o_courseAt a_o_paceAt a_o_turnsAt a_o_slowAt a_o_fuelAt a_o_ringAt a_o_pieceParts a_o_dragCell a_o_dragBy a_o_sums a_o_shares a_o_keptFar a_o_image a_o_lanes a_o_sizes a_o_items a_o_movedItems o_taped o_at o_wrong o_level o_noRings o_noTones o_noFuel o_pieces o_drags o_all o_noPieces o_noDrags o_kept o_sets)) [0, 1] (by decide +kernel) rfl
    have hFc := va_free (wc := (W_X7_away cyI cyJ cyO h_o a_o_sets a_o_ringFar a_o_ringTone a_o_currents a_o_warmths a_o_depths a_o_tape a_o_readFar a_o_readTone a_o_readSea a_o_code a_o_cellAt a_o_courseAt a_o_paceAt a_o_turnsAt a_o_slowAt a_o_fuelAt a_o_ringAt a_o_pieceParts a_o_dragCell a_o_dragBy a_o_sums a_o_shares a_o_keptFar a_o_image a_o_lanes a_o_sizes a_o_items a_o_movedItems o_taped o_at o_wrong o_level o_noRings o_noTones o_noFuel o_pieces o_drags o_all o_noPieces o_noDrags o_kept o_sets)) hD hS hA [0, 1] rfl
    refine kc_i (wr := []) (va_runV (As := [.int x1]) (rest := []) ⟨hx, hb, hml, hown, hts⟩ (c_X7_away l dC dI cyI cyJ cyO H.size h_o a_o_sets a_o_ringFar a_o_ringTone a_o_currents a_o_warmths a_o_depths a_o_tape a_o_readFar a_o_readTone a_o_readSea a_o_code a_o_cellAt a_o_courseAt a_o_paceAt a_o_turnsAt a_o_slowAt a_o_fuelAt a_o_ringAt a_o_pieceParts a_o_dragCell a_o_dragBy a_o_sums a_o_shares a_o_keptFar a_o_image a_o_lanes a_o_sizes a_o_items a_o_movedItems o_taped o_at o_wrong o_level o_noRings o_noTones o_noFuel o_pieces o_drags o_all o_noPieces o_noDrags o_kept o_sets x1 _ (okb1 hw)) (cwV 1 hts (gdV (fun w h => List.mem_cons_of_mem _ h) q_849 q_851 qs_24 q_8 q_852) rfl rfl rfl (by decide +kernel) ⟨Nat.le_of_ble_eq_true rfl, Nat.le_of_ble_eq_true rfl⟩) ⟨(kpre zN_ok hK hPc hDc trivial hS hFc).1, va_recv hK hP (ci := 7) (q0 := 0) rfl rfl, (kpre zN_ok hK hPc hDc trivial hS hFc).2⟩ rfl rfl hl.1 rfl (lv_room (Nat.le_of_ble_eq_true rfl)) dX7_far_9 ⟨Nat.le_of_ble_eq_true rfl, Nat.le_of_ble_eq_true rfl⟩) hP hD hS hFc [0, 1] [] rfl rfl (by decide +kernel) (by decide +kernel) (fun r_3 u H locs hw hP hD hS => ?_)
    try dsimp only at hw
    have hP : va_P (dC, dI) vwCl (W_X7_far cyI cyJ cyO h_o a_o_sets a_o_ringFar a_o_ringTone a_o_currents a_o_warmths a_o_depths a_o_tape a_o_readFar a_o_readTone a_o_readSea a_o_code a_o_cellAt a_o_courseAt a_o_paceAt a_o_turnsAt a_o_slowAt a_o_fuelAt a_o_ringAt a_o_pieceParts a_o_dragCell a_o_dragBy a_o_sums a_o_shares a_o_keptFar a_o_image a_o_lanes a_o_sizes a_o_items a_o_movedItems o_taped o_at o_wrong o_level o_noRings o_noTones o_noFuel o_pieces o_drags o_all o_noPieces o_noDrags o_kept o_sets) H := hP.sub [0, 1] rfl
    have hD : va_D A (W_X7_far cyI cyJ cyO h_o a_o_sets a_o_ringFar a_o_ringTone a_o_currents a_o_warmths a_o_depths a_o_tape a_o_readFar a_o_readTone a_o_readSea a_o_code a_o_cellAt a_o_courseAt a_o_paceAt a_o_turnsAt a_o_slowAt a_o_fuelAt a_o_ringAt a_o_pieceParts a_o_dragCell a_o_dragBy a_o_sums a_o_shares a_o_keptFar a_o_image a_o_lanes a_o_sizes a_o_items a_o_movedItems o_taped o_at o_wrong o_level o_noRings o_noTones o_noFuel o_pieces o_drags o_all o_noPieces o_noDrags o_kept o_sets) := hD.sub [0, 1] (by decide +kernel) rfl
    clear hPc hDc hFc
    refine lv_goto (tgt := 16) hx hb dX7_far_12 (by decide) ?_
    rw [hQ]
    exact W.iret (v := r_3) hx hb hr (fun t ht hW => ⟨⟨r_3, (), rfl, okS hw, by rw [ht]; exact hP, va_K.moved hW.alike hK, hD⟩, hS.F ht⟩) hS.2.2 dX7_far_16
/-! ===== X7_ring ===== -/
theorem dX7_ring_0 : decode cX7_ring 0 = .ok (.iload_n 1, 1) := by decide +kernel
theorem dX7_ring_1 : decode cX7_ring 1 = .ok (.i2l, 1) := by decide +kernel
theorem dX7_ring_2 : decode cX7_ring 2 = .ok (.lconst 1, 1) := by decide +kernel
theorem dX7_ring_3 : decode cX7_ring 3 = .ok (.ldc2_w 122, 3) := by decide +kernel
theorem dX7_ring_6 : decode cX7_ring 6 = .ok (.invokestatic 100, 3) := by decide +kernel
theorem dX7_ring_9 : decode cX7_ring 9 = .ok (.ifCond .eq 45, 3) := by decide +kernel
theorem dX7_ring_12 : decode cX7_ring 12 = .ok (.iload_n 2, 1) := by decide +kernel
theorem dX7_ring_13 : decode cX7_ring 13 = .ok (.i2l, 1) := by decide +kernel
theorem dX7_ring_14 : decode cX7_ring 14 = .ok (.lconst 0, 1) := by decide +kernel
theorem dX7_ring_15 : decode cX7_ring 15 = .ok (.lconst 1, 1) := by decide +kernel
theorem dX7_ring_16 : decode cX7_ring 16 = .ok (.invokestatic 100, 3) := by decide +kernel
theorem dX7_ring_19 : decode cX7_ring 19 = .ok (.ifCond .eq 35, 3) := by decide +kernel
theorem dX7_ring_22 : decode cX7_ring 22 = .ok (.iload_n 3, 1) := by decide +kernel
theorem dX7_ring_23 : decode cX7_ring 23 = .ok (.i2l, 1) := by decide +kernel
theorem dX7_ring_24 : decode cX7_ring 24 = .ok (.iload_n 2, 1) := by decide +kernel
theorem dX7_ring_25 : decode cX7_ring 25 = .ok (.ifCond .ne 9, 3) := by decide +kernel
theorem dX7_ring_28 : decode cX7_ring 28 = .ok (.ldc2_w 124, 3) := by decide +kernel
theorem dX7_ring_31 : decode cX7_ring 31 = .ok (.goto 4, 3) := by decide +kernel
theorem dX7_ring_34 : decode cX7_ring 34 = .ok (.lconst 0, 1) := by decide +kernel
theorem dX7_ring_35 : decode cX7_ring 35 = .ok (.iload_n 2, 1) := by decide +kernel
theorem dX7_ring_36 : decode cX7_ring 36 = .ok (.ifCond .ne 9, 3) := by decide +kernel
theorem dX7_ring_39 : decode cX7_ring 39 = .ok (.ldc2_w 126, 3) := by decide +kernel
theorem dX7_ring_42 : decode cX7_ring 42 = .ok (.goto 6, 3) := by decide +kernel
theorem dX7_ring_45 : decode cX7_ring 45 = .ok (.ldc2_w 128, 3) := by decide +kernel
theorem dX7_ring_48 : decode cX7_ring 48 = .ok (.invokestatic 100, 3) := by decide +kernel
theorem dX7_ring_51 : decode cX7_ring 51 = .ok (.ifCond .ne 5, 3) := by decide +kernel
theorem dX7_ring_54 : decode cX7_ring 54 = .ok (.iconst (-1), 1) := by decide +kernel
theorem dX7_ring_55 : decode cX7_ring 55 = .ok (.ireturn, 1) := by decide +kernel
theorem dX7_ring_56 : decode cX7_ring 56 = .ok (.iload_n 2, 1) := by decide +kernel
theorem dX7_ring_57 : decode cX7_ring 57 = .ok (.ifCond .ne 12, 3) := by decide +kernel
theorem dX7_ring_60 : decode cX7_ring 60 = .ok (.aload_n 0, 1) := by decide +kernel
theorem dX7_ring_61 : decode cX7_ring 61 = .ok (.getfield 13, 3) := by decide +kernel
theorem dX7_ring_64 : decode cX7_ring 64 = .ok (.iload_n 1, 1) := by decide +kernel
theorem dX7_ring_65 : decode cX7_ring 65 = .ok (.iaload, 1) := by decide +kernel
theorem dX7_ring_66 : decode cX7_ring 66 = .ok (.goto 9, 3) := by decide +kernel
theorem dX7_ring_69 : decode cX7_ring 69 = .ok (.aload_n 0, 1) := by decide +kernel
theorem dX7_ring_70 : decode cX7_ring 70 = .ok (.getfield 16, 3) := by decide +kernel
theorem dX7_ring_73 : decode cX7_ring 73 = .ok (.iload_n 1, 1) := by decide +kernel
theorem dX7_ring_74 : decode cX7_ring 74 = .ok (.iaload, 1) := by decide +kernel
theorem dX7_ring_75 : decode cX7_ring 75 = .ok (.istore 4, 2) := by decide +kernel
theorem dX7_ring_77 : decode cX7_ring 77 = .ok (.iload_n 2, 1) := by decide +kernel
theorem dX7_ring_78 : decode cX7_ring 78 = .ok (.ifCond .ne 13, 3) := by decide +kernel
theorem dX7_ring_81 : decode cX7_ring 81 = .ok (.aload_n 0, 1) := by decide +kernel
theorem dX7_ring_82 : decode cX7_ring 82 = .ok (.getfield 13, 3) := by decide +kernel
theorem dX7_ring_85 : decode cX7_ring 85 = .ok (.iload_n 1, 1) := by decide +kernel
theorem dX7_ring_86 : decode cX7_ring 86 = .ok (.iload_n 3, 1) := by decide +kernel
theorem dX7_ring_87 : decode cX7_ring 87 = .ok (.iastore, 1) := by decide +kernel
theorem dX7_ring_88 : decode cX7_ring 88 = .ok (.goto 10, 3) := by decide +kernel
theorem dX7_ring_91 : decode cX7_ring 91 = .ok (.aload_n 0, 1) := by decide +kernel
theorem dX7_ring_92 : decode cX7_ring 92 = .ok (.getfield 16, 3) := by decide +kernel
theorem dX7_ring_95 : decode cX7_ring 95 = .ok (.iload_n 1, 1) := by decide +kernel
theorem dX7_ring_96 : decode cX7_ring 96 = .ok (.iload_n 3, 1) := by decide +kernel
theorem dX7_ring_97 : decode cX7_ring 97 = .ok (.iastore, 1) := by decide +kernel
theorem dX7_ring_98 : decode cX7_ring 98 = .ok (.bipush 100, 2) := by decide +kernel
theorem dX7_ring_100 : decode cX7_ring 100 = .ok (.iload 4, 2) := by decide +kernel
theorem dX7_ring_102 : decode cX7_ring 102 = .ok (.iadd, 1) := by decide +kernel
theorem dX7_ring_103 : decode cX7_ring 103 = .ok (.ireturn, 1) := by decide +kernel
abbrev W_X7_ring (cyI cyJ cyO : ClassId) (h_o a_o_sets a_o_ringFar a_o_ringTone a_o_currents a_o_warmths a_o_depths a_o_tape a_o_readFar a_o_readTone a_o_readSea a_o_code a_o_cellAt a_o_courseAt a_o_paceAt a_o_turnsAt a_o_slowAt a_o_fuelAt a_o_ringAt a_o_pieceParts a_o_dragCell a_o_dragBy a_o_sums a_o_shares a_o_keptFar a_o_image a_o_lanes a_o_sizes a_o_items a_o_movedItems : Nat) (o_taped : Int32) (o_at : Int32) (o_wrong : Int32) (o_level : Int32) (o_noRings : Int32) (o_noTones : Int32) (o_noFuel : Int32) (o_pieces : Int32) (o_drags : Int32) (o_all : Int64) (o_noPieces : Int32) (o_noDrags : Int32) (o_kept : Int32) (o_ringFar : Nat → Int32) (o_ringTone : Nat → Int32) : va_W := [(h_o, .inr (7, [.ref a_o_sets, .ref a_o_ringFar, .ref a_o_ringTone, .ref a_o_currents, .ref a_o_warmths, .ref a_o_depths, .ref a_o_tape, .int o_taped, .int o_at, .int o_wrong, .ref a_o_readFar, .ref a_o_readTone, .ref a_o_readSea, .ref a_o_code, .ref a_o_cellAt, .ref a_o_courseAt, .ref a_o_paceAt, .ref a_o_turnsAt, .ref a_o_slowAt, .ref a_o_fuelAt, .ref a_o_ringAt, .int o_level, .int o_noRings, .int o_noTones, .int o_noFuel, .int o_pieces, .ref a_o_pieceParts, .int o_drags, .ref a_o_dragCell, .ref a_o_dragBy, .ref a_o_sums, .long o_all, .int o_noPieces, .int o_noDrags, .ref a_o_shares, .ref a_o_keptFar, .ref a_o_image, .int o_kept, .ref a_o_lanes, .ref a_o_sizes, .ref a_o_items, .ref a_o_movedItems])), (a_o_ringFar, .inl (cyI, 7, .inl o_ringFar)), (a_o_ringTone, .inl (cyI, 7, .inl o_ringTone))]
def f_X7_ring_B75 (v1 : Int32) (v2 : Int32) (v3 : Int32) (y0 : Int32) (o_ringFar : Nat → Int32) (o_ringTone : Nat → Int32) : Option (Int32 × (Nat → Int32) × (Nat → Int32)) :=
  if v2 = 0 then
    chk (¬ (v1 < 0 ∨ 7 ≤ v1.toNatClampNeg)) <|
    some (100 + y0, upd o_ringFar v1.toNatClampNeg v3, o_ringTone)
  else
    chk (¬ (v1 < 0 ∨ 7 ≤ v1.toNatClampNeg)) <|
    some (100 + y0, o_ringFar, upd o_ringTone v1.toNatClampNeg v3)
def f_X7_ring_B48 (v1 : Int32) (v2 : Int32) (v3 : Int32) (y0 : Int64) (y1 : Int64) (y2 : Int64) (o_ringFar : Nat → Int32) (o_ringTone : Nat → Int32) : Option (Int32 × (Nat → Int32) × (Nat → Int32)) :=
  bd1 (f_X7_in y2 y1 y0) fun r_1 =>
  if r_1 = 0 then
    some ((-1), o_ringFar, o_ringTone)
  else
    if v2 = 0 then
      chk (¬ (v1 < 0 ∨ 7 ≤ v1.toNatClampNeg)) <|
      f_X7_ring_B75 v1 v2 v3 (o_ringFar v1.toNatClampNeg) o_ringFar o_ringTone
    else
      chk (¬ (v1 < 0 ∨ 7 ≤ v1.toNatClampNeg)) <|
      f_X7_ring_B75 v1 v2 v3 (o_ringTone v1.toNatClampNeg) o_ringFar o_ringTone
def f_X7_ring_B35 (v1 : Int32) (v2 : Int32) (v3 : Int32) (y0 : Int64) (y1 : Int64) (o_ringFar : Nat → Int32) (o_ringTone : Nat → Int32) : Option (Int32 × (Nat → Int32) × (Nat → Int32)) :=
  if v2 = 0 then
    f_X7_ring_B48 v1 v2 v3 40 y0 y1 o_ringFar o_ringTone
  else
    f_X7_ring_B48 v1 v2 v3 2 y0 y1 o_ringFar o_ringTone
def f_X7_ring (x1 : Int32) (x2 : Int32) (x3 : Int32) (o_ringFar : Nat → Int32) (o_ringTone : Nat → Int32) : Option (Int32 × (Nat → Int32) × (Nat → Int32)) :=
  bd1 (f_X7_in x1.toInt64 1 6) fun r_2 =>
  if r_2 = 0 then
    some ((-1), o_ringFar, o_ringTone)
  else
    bd1 (f_X7_in x2.toInt64 0 1) fun r_3 =>
    if r_3 = 0 then
      some ((-1), o_ringFar, o_ringTone)
    else
      if x2 = 0 then
        f_X7_ring_B35 x1 x2 x3 (-1) x3.toInt64 o_ringFar o_ringTone
      else
        f_X7_ring_B35 x1 x2 x3 0 x3.toInt64 o_ringFar o_ringTone
abbrev rm_X7_ring : Room := { frames := 1, cells := 0, slots := 0, locals := 25 }
set_option maxRecDepth 100000 in
set_option maxHeartbeats 4000000 in
theorem c_X7_ring (l : Launch) (dC : Nat → ClassId) (dI : Nat → Nat → Nat) (cyI cyJ cyO : ClassId) (sz : Nat) (h_o a_o_sets a_o_ringFar a_o_ringTone a_o_currents a_o_warmths a_o_depths a_o_tape a_o_readFar a_o_readTone a_o_readSea a_o_code a_o_cellAt a_o_courseAt a_o_paceAt a_o_turnsAt a_o_slowAt a_o_fuelAt a_o_ringAt a_o_pieceParts a_o_dragCell a_o_dragBy a_o_sums a_o_shares a_o_keptFar a_o_image a_o_lanes a_o_sizes a_o_items a_o_movedItems : Nat) (o_taped : Int32) (o_at : Int32) (o_wrong : Int32) (o_level : Int32) (o_noRings : Int32) (o_noTones : Int32) (o_noFuel : Int32) (o_pieces : Int32) (o_drags : Int32) (o_all : Int64) (o_noPieces : Int32) (o_noDrags : Int32) (o_kept : Int32) (o_ringFar : Nat → Int32) (o_ringTone : Nat → Int32) (x1 : Int32) (x2 : Int32) (x3 : Int32) (post : (Int32 × (Nat → Int32) × (Nat → Int32)) → Prop) (hf : okP (f_X7_ring x1 x2 x3 o_ringFar o_ringTone) post) : Ci l (dC, dI) (tyL cyI cyJ cyO) yX7_ring wsX7_ring rm_X7_ring [.ref h_o, .int x1, .int x2, .int x3] sz (W_X7_ring cyI cyJ cyO h_o a_o_sets a_o_ringFar a_o_ringTone a_o_currents a_o_warmths a_o_depths a_o_tape a_o_readFar a_o_readTone a_o_readSea a_o_code a_o_cellAt a_o_courseAt a_o_paceAt a_o_turnsAt a_o_slowAt a_o_fuelAt a_o_ringAt a_o_pieceParts a_o_dragCell a_o_dragBy a_o_sums a_o_shares a_o_keptFar a_o_image a_o_lanes a_o_sizes a_o_items a_o_movedItems o_taped o_at o_wrong o_level o_noRings o_noTones o_noFuel o_pieces o_drags o_all o_noPieces o_noDrags o_kept o_ringFar o_ringTone) zN (fun r u => post (r, u)) (fun u => (W_X7_ring cyI cyJ cyO h_o a_o_sets a_o_ringFar a_o_ringTone a_o_currents a_o_warmths a_o_depths a_o_tape a_o_readFar a_o_readTone a_o_readSea a_o_code a_o_cellAt a_o_courseAt a_o_paceAt a_o_turnsAt a_o_slowAt a_o_fuelAt a_o_ringAt a_o_pieceParts a_o_dragCell a_o_dragBy a_o_sums a_o_shares a_o_keptFar a_o_image a_o_lanes a_o_sizes a_o_items a_o_movedItems o_taped o_at o_wrong o_level o_noRings o_noTones o_noFuel o_pieces o_drags o_all o_noPieces o_noDrags o_kept u.1 u.2)) := by
  refine Met.ofW (cc := cX7_ring) (maxL := 5) (ret := (some .int)) (by decide) rfl ?_
  intro p e s m args below meth c s₁ B hml hv
  obtain ⟨rfl, hsz, hP, hK, hD0, hZ⟩ := hv
  have hx := B.exec
  have hb := B.bytes
  have hr := B.returns
  have hts := atoms_spec (ws := wsX7_ring) B.pre
  have hown : s.vm.findClass RX7 = some m.cls := findClass_of_methodNamed B.named
  have hlocks := B.notSynchronized
  subst hsz
  have hD := hD0.self (sz := s.heap.size)
  generalize hAe : va_A (W_X7_ring cyI cyJ cyO h_o a_o_sets a_o_ringFar a_o_ringTone a_o_currents a_o_warmths a_o_depths a_o_tape a_o_readFar a_o_readTone a_o_readSea a_o_code a_o_cellAt a_o_courseAt a_o_paceAt a_o_turnsAt a_o_slowAt a_o_fuelAt a_o_ringAt a_o_pieceParts a_o_dragCell a_o_dragBy a_o_sums a_o_shares a_o_keptFar a_o_image a_o_lanes a_o_sizes a_o_items a_o_movedItems o_taped o_at o_wrong o_level o_noRings o_noTones o_noFuel o_pieces o_drags o_all o_noPieces o_noDrags o_kept o_ringFar o_ringTone) s.heap.size = A at hD hZ ⊢
  have hA : ∀ q : Nat, s.heap.size ≤ q → A q := fun q h => by rw [← hAe]; exact Or.inr h
  clear hAe hD0
  have hS : va_S A s.heap s.heap [] := va_S.rf
  have hl := lv_entry ([.ref h_o, .int x1, .int x2, .int x3]) (n := 5) (Nat.le_of_ble_eq_true rfl)
  rw [lg_entry_eq]
  generalize (lg_sl ([.ref h_o, .int x1, .int x2, .int x3]) ++ List.replicate (5 - (lg_sl ([.ref h_o, .int x1, .int x2, .int x3])).length) Slot.unset).toArray = ls at hl ⊢
  have hl : lv_has ls 5 [(0, .ref h_o), (1, .int x1), (2, .int x2), (3, .int x3)] := hl
  refine kW (fun Q hQ => ?_)
  have hq0 := hts _ (List.mem_cons_of_mem _ q_708)
  have hi7 : ∀ w ∈ u_ws RX7 TX7 42, w ∈ wsX7_ring := fun w h => List.mem_cons_of_mem _ (inX7 w h)
  have hq2 := hts _ (List.mem_cons_of_mem _ q_707)
  have hq3 := hts _ (List.mem_cons_of_mem _ q_860)
  have hq4 := hts _ (List.mem_cons_of_mem _ q_859)
  have hq5 := hts _ (List.mem_cons_of_mem _ q_857)
  have hq6 := hts _ (List.mem_cons_of_mem _ q_858)
  have hw := hf
  have w75 : ∀ (v1 : Int32) (v2 : Int32) (v3 : Int32) (y0 : Int32) (o_ringFar : Nat → Int32) (o_ringTone : Nat → Int32) (H : Heap) (locs : List Loc), va_P (dC, dI) vwCl (W_X7_ring cyI cyJ cyO h_o a_o_sets a_o_ringFar a_o_ringTone a_o_currents a_o_warmths a_o_depths a_o_tape a_o_readFar a_o_readTone a_o_readSea a_o_code a_o_cellAt a_o_courseAt a_o_paceAt a_o_turnsAt a_o_slowAt a_o_fuelAt a_o_ringAt a_o_pieceParts a_o_dragCell a_o_dragBy a_o_sums a_o_shares a_o_keptFar a_o_image a_o_lanes a_o_sizes a_o_items a_o_movedItems o_taped o_at o_wrong o_level o_noRings o_noTones o_noFuel o_pieces o_drags o_all o_noPieces o_noDrags o_kept o_ringFar o_ringTone) H → va_D A (W_X7_ring cyI cyJ cyO h_o a_o_sets a_o_ringFar a_o_ringTone a_o_currents a_o_warmths a_o_depths a_o_tape a_o_readFar a_o_readTone a_o_readSea a_o_code a_o_cellAt a_o_courseAt a_o_paceAt a_o_turnsAt a_o_slowAt a_o_fuelAt a_o_ringAt a_o_pieceParts a_o_dragCell a_o_dragBy a_o_sums a_o_shares a_o_keptFar a_o_image a_o_lanes a_o_sizes a_o_items a_o_movedItems o_taped o_at o_wrong o_level o_noRings o_noTones o_noFuel o_pieces o_drags o_all o_noPieces o_noDrags o_kept o_ringFar o_ringTone) → va_S A s.heap H locs → ∀ (ls : Array Slot), lv_has ls 5 [(0, .ref h_o), (1, .int v1), (2, .int v2), (3, .int v3)] → okP (f_X7_ring_B75 v1 v2 v3 y0 o_ringFar o_ringTone) post → W p l e (headSpec wsX7_ring rm_X7_ring).room s m ([.ref h_o, .int x1, .int x2, .int x3] : List Value).toArray below meth c H locs 0 0 Q (F0 m 75 ls [.int y0]) := by
    intro v1 v2 v3 y0 o_ringFar o_ringTone H locs hP hD hS ls hl hw
    unfold f_X7_ring_B75 at hw
    refine lv_istore (lv' := [(4, .int y0), (0, .ref h_o), (1, .int v1), (2, .int v2), (3, .int v3)]) hx hb dX7_ring_75 hl (by decide) rfl (fun ls hl => ?_)
    refine lv_iload_n hx hb dX7_ring_77 rfl (lv_at hl 3 rfl) ?_
    refine lv_if_ne (tgt := 91) hx hb dX7_ring_78 (by decide) (fun c_1 => ?_) (fun c_1 => ?_)
    · replace hw := okF hw c_1
      clear c_1
      refine lv_aload_n hx hb dX7_ring_91 rfl (lv_at hl 1 rfl) ?_
      refine va_get (D := (dC, dI)) (ci := 7) (v := .ref a_o_ringTone) (C := RX7) (T := TX7) (N := 42) hx hb hts hi7 hown hK hP 0 rfl rfl 2 (by decide) hq0 (fun _ h9 => h9) rfl dX7_ring_92 ?_
      refine lv_iload_n hx hb dX7_ring_95 rfl (lv_at hl 2 rfl) ?_
      refine lv_iload_n hx hb dX7_ring_96 rfl (lv_at hl 4 rfl) ?_
      obtain ⟨h_2, hw⟩ := okC hw
      refine va_iast (i := v1) (x := v3) hx hb hK hP hD hS 2 0 rfl rfl h_2 dX7_ring_97 (fun H locs hP hD hS => ?_)
      have hP : va_P (dC, dI) vwCl (W_X7_ring cyI cyJ cyO h_o a_o_sets a_o_ringFar a_o_ringTone a_o_currents a_o_warmths a_o_depths a_o_tape a_o_readFar a_o_readTone a_o_readSea a_o_code a_o_cellAt a_o_courseAt a_o_paceAt a_o_turnsAt a_o_slowAt a_o_fuelAt a_o_ringAt a_o_pieceParts a_o_dragCell a_o_dragBy a_o_sums a_o_shares a_o_keptFar a_o_image a_o_lanes a_o_sizes a_o_items a_o_movedItems o_taped o_at o_wrong o_level o_noRings o_noTones o_noFuel o_pieces o_drags o_all o_noPieces o_noDrags o_kept o_ringFar (upd o_ringTone v1.toNatClampNeg v3)) H := hP
      have hD : va_D A (W_X7_ring cyI cyJ cyO h_o a_o_sets a_o_ringFar a_o_ringTone a_o_currents a_o_warmths a_o_depths a_o_tape a_o_readFar a_o_readTone a_o_readSea a_o_code a_o_cellAt a_o_courseAt a_o_paceAt a_o_turnsAt a_o_slowAt a_o_fuelAt a_o_ringAt a_o_pieceParts a_o_dragCell a_o_dragBy a_o_sums a_o_shares a_o_keptFar a_o_image a_o_lanes a_o_sizes a_o_items a_o_movedItems o_taped o_at o_wrong o_level o_noRings o_noTones o_noFuel o_pieces o_drags o_all o_noPieces o_noDrags o_kept o_ringFar (upd o_ringTone v1.toNatClampNeg v3)) := hD
      refine lv_bipush (v := 100) hx hb dX7_ring_98 (by decide) ?_
      refine lv_iload hx hb dX7_ring_100 (lv_at hl 0 rfl) ?_
      refine lv_iadd hx hb dX7_ring_102 ?_
      rw [hQ]
      exact W.iret (v := 100 + y0) hx hb hr (fun t ht hW => ⟨⟨100 + y0, (o_ringFar, upd o_ringTone v1.toNatClampNeg v3), rfl, okS hw, by rw [ht]; exact hP, va_K.moved hW.alike hK, hD⟩, hS.F ht⟩) hS.2.2 dX7_ring_103
    · replace hw := okT hw c_1
      clear c_1
      refine lv_aload_n hx hb dX7_ring_81 rfl (lv_at hl 1 rfl) ?_
      refine va_get (D := (dC, dI)) (ci := 7) (v := .ref a_o_ringFar) (C := RX7) (T := TX7) (N := 42) hx hb hts hi7 hown hK hP 0 rfl rfl 1 (by decide) hq2 (fun _ h9 => h9) rfl dX7_ring_82 ?_
      refine lv_iload_n hx hb dX7_ring_85 rfl (lv_at hl 2 rfl) ?_
      refine lv_iload_n hx hb dX7_ring_86 rfl (lv_at hl 4 rfl) ?_
      obtain ⟨h_3, hw⟩ := okC hw
      refine va_iast (i := v1) (x := v3) hx hb hK hP hD hS 1 0 rfl rfl h_3 dX7_ring_87 (fun H locs hP hD hS => ?_)
      have hP : va_P (dC, dI) vwCl (W_X7_ring cyI cyJ cyO h_o a_o_sets a_o_ringFar a_o_ringTone a_o_currents a_o_warmths a_o_depths a_o_tape a_o_readFar a_o_readTone a_o_readSea a_o_code a_o_cellAt a_o_courseAt a_o_paceAt a_o_turnsAt a_o_slowAt a_o_fuelAt a_o_ringAt a_o_pieceParts a_o_dragCell a_o_dragBy a_o_sums a_o_shares a_o_keptFar a_o_image a_o_lanes a_o_sizes a_o_items a_o_movedItems o_taped o_at o_wrong o_level o_noRings o_noTones o_noFuel o_pieces o_drags o_all o_noPieces o_noDrags o_kept (upd o_ringFar v1.toNatClampNeg v3) o_ringTone) H := hP
      have hD : va_D A (W_X7_ring cyI cyJ cyO h_o a_o_sets a_o_ringFar a_o_ringTone a_o_currents a_o_warmths a_o_depths a_o_tape a_o_readFar a_o_readTone a_o_readSea a_o_code a_o_cellAt a_o_courseAt a_o_paceAt a_o_turnsAt a_o_slowAt a_o_fuelAt a_o_ringAt a_o_pieceParts a_o_dragCell a_o_dragBy a_o_sums a_o_shares a_o_keptFar a_o_image a_o_lanes a_o_sizes a_o_items a_o_movedItems o_taped o_at o_wrong o_level o_noRings o_noTones o_noFuel o_pieces o_drags o_all o_noPieces o_noDrags o_kept (upd o_ringFar v1.toNatClampNeg v3) o_ringTone) := hD
      refine lv_goto (tgt := 98) hx hb dX7_ring_88 (by decide) ?_
      refine lv_bipush (v := 100) hx hb dX7_ring_98 (by decide) ?_
      refine lv_iload hx hb dX7_ring_100 (lv_at hl 0 rfl) ?_
      refine lv_iadd hx hb dX7_ring_102 ?_
      rw [hQ]
      exact W.iret (v := 100 + y0) hx hb hr (fun t ht hW => ⟨⟨100 + y0, (upd o_ringFar v1.toNatClampNeg v3, o_ringTone), rfl, okS hw, by rw [ht]; exact hP, va_K.moved hW.alike hK, hD⟩, hS.F ht⟩) hS.2.2 dX7_ring_103
  have w48 : ∀ (v1 : Int32) (v2 : Int32) (v3 : Int32) (y0 : Int64) (y1 : Int64) (y2 : Int64) (o_ringFar : Nat → Int32) (o_ringTone : Nat → Int32) (H : Heap) (locs : List Loc), va_P (dC, dI) vwCl (W_X7_ring cyI cyJ cyO h_o a_o_sets a_o_ringFar a_o_ringTone a_o_currents a_o_warmths a_o_depths a_o_tape a_o_readFar a_o_readTone a_o_readSea a_o_code a_o_cellAt a_o_courseAt a_o_paceAt a_o_turnsAt a_o_slowAt a_o_fuelAt a_o_ringAt a_o_pieceParts a_o_dragCell a_o_dragBy a_o_sums a_o_shares a_o_keptFar a_o_image a_o_lanes a_o_sizes a_o_items a_o_movedItems o_taped o_at o_wrong o_level o_noRings o_noTones o_noFuel o_pieces o_drags o_all o_noPieces o_noDrags o_kept o_ringFar o_ringTone) H → va_D A (W_X7_ring cyI cyJ cyO h_o a_o_sets a_o_ringFar a_o_ringTone a_o_currents a_o_warmths a_o_depths a_o_tape a_o_readFar a_o_readTone a_o_readSea a_o_code a_o_cellAt a_o_courseAt a_o_paceAt a_o_turnsAt a_o_slowAt a_o_fuelAt a_o_ringAt a_o_pieceParts a_o_dragCell a_o_dragBy a_o_sums a_o_shares a_o_keptFar a_o_image a_o_lanes a_o_sizes a_o_items a_o_movedItems o_taped o_at o_wrong o_level o_noRings o_noTones o_noFuel o_pieces o_drags o_all o_noPieces o_noDrags o_kept o_ringFar o_ringTone) → va_S A s.heap H locs → ∀ (ls : Array Slot), lv_has ls 5 [(0, .ref h_o), (1, .int v1), (2, .int v2), (3, .int v3)] → okP (f_X7_ring_B48 v1 v2 v3 y0 y1 y2 o_ringFar o_ringTone) post → W p l e (headSpec wsX7_ring rm_X7_ring).room s m ([.ref h_o, .int x1, .int x2, .int x3] : List Value).toArray below meth c H locs 0 0 Q (F0 m 48 ls [.long y0, .long y1, .long y2]) := by
    intro v1 v2 v3 y0 y1 y2 o_ringFar o_ringTone H locs hP hD hS ls hl hw
    unfold f_X7_ring_B48 at hw
    have hFc := va_free (wc := []) hD hS hA [] rfl
    refine kp_i (va_runS (As := [.long y2, .long y1, .long y0]) (rest := []) ⟨hx, hb, hml, hown, hts⟩ (c_X7_in l dC dI cyI cyJ cyO H.size y2 y1 y0 _ (okb1 hw)) (va_cwS 3 hts (gdS (fun w h => List.mem_cons_of_mem _ h) q_838 q_839 q_8 q_840) rfl rfl rfl (by decide +kernel) ⟨Nat.le_of_ble_eq_true rfl, Nat.le_of_ble_eq_true rfl⟩) (kpre zN_ok hK va_P0 va_D0 trivial hS hFc) rfl rfl hl.1 rfl (lv_room (Nat.le_of_ble_eq_true rfl)) dX7_ring_48 ⟨Nat.le_of_ble_eq_true rfl, Nat.le_of_ble_eq_true rfl⟩) hP hD hS hFc (fun r_4 H locs hw hP hS => ?_)
    try dsimp only at hw
    clear hFc
    refine lv_if_ne (tgt := 56) hx hb dX7_ring_51 (by decide) (fun c_5 => ?_) (fun c_5 => ?_)
    · replace hw := okF hw c_5
      clear c_5
      refine lv_iload_n hx hb dX7_ring_56 rfl (lv_at hl 2 rfl) ?_
      refine lv_if_ne (tgt := 69) hx hb dX7_ring_57 (by decide) (fun c_6 => ?_) (fun c_6 => ?_)
      · replace hw := okF hw c_6
        clear c_6
        refine lv_aload_n hx hb dX7_ring_69 rfl (lv_at hl 0 rfl) ?_
        refine va_get (D := (dC, dI)) (ci := 7) (v := .ref a_o_ringTone) (C := RX7) (T := TX7) (N := 42) hx hb hts hi7 hown hK hP 0 rfl rfl 2 (by decide) hq0 (fun _ h9 => h9) rfl dX7_ring_70 ?_
        refine lv_iload_n hx hb dX7_ring_73 rfl (lv_at hl 1 rfl) ?_
        obtain ⟨h_7, hw⟩ := okC hw
        refine va_iald (i := v1) hx hb hK hP 2 0 rfl rfl h_7 dX7_ring_74 ?_
        exact w75 v1 v2 v3 (o_ringTone v1.toNatClampNeg) o_ringFar o_ringTone _ _ hP hD hS _ (lv_sub hl [0, 1, 2, 3] rfl) hw
      · replace hw := okT hw c_6
        clear c_6
        refine lv_aload_n hx hb dX7_ring_60 rfl (lv_at hl 0 rfl) ?_
        refine va_get (D := (dC, dI)) (ci := 7) (v := .ref a_o_ringFar) (C := RX7) (T := TX7) (N := 42) hx hb hts hi7 hown hK hP 0 rfl rfl 1 (by decide) hq2 (fun _ h9 => h9) rfl dX7_ring_61 ?_
        refine lv_iload_n hx hb dX7_ring_64 rfl (lv_at hl 1 rfl) ?_
        obtain ⟨h_8, hw⟩ := okC hw
        refine va_iald (i := v1) hx hb hK hP 1 0 rfl rfl h_8 dX7_ring_65 ?_
        refine lv_goto (tgt := 75) hx hb dX7_ring_66 (by decide) ?_
        exact w75 v1 v2 v3 (o_ringFar v1.toNatClampNeg) o_ringFar o_ringTone _ _ hP hD hS _ (lv_sub hl [0, 1, 2, 3] rfl) hw
    · replace hw := okT hw c_5
      clear c_5
      refine lv_iconst (v := (-1)) hx hb dX7_ring_54 (by decide) ?_
      rw [hQ]
      exact W.iret (v := (-1)) hx hb hr (fun t ht hW => ⟨⟨(-1), (o_ringFar, o_ringTone), rfl, okS hw, by rw [ht]; exact hP, va_K.moved hW.alike hK, hD⟩, hS.F ht⟩) hS.2.2 dX7_ring_55
  have w35 : ∀ (v1 : Int32) (v2 : Int32) (v3 : Int32) (y0 : Int64) (y1 : Int64) (o_ringFar : Nat → Int32) (o_ringTone : Nat → Int32) (H : Heap) (locs : List Loc), va_P (dC, dI) vwCl (W_X7_ring cyI cyJ cyO h_o a_o_sets a_o_ringFar a_o_ringTone a_o_currents a_o_warmths a_o_depths a_o_tape a_o_readFar a_o_readTone a_o_readSea a_o_code a_o_cellAt a_o_courseAt a_o_paceAt a_o_turnsAt a_o_slowAt a_o_fuelAt a_o_ringAt a_o_pieceParts a_o_dragCell a_o_dragBy a_o_sums a_o_shares a_o_keptFar a_o_image a_o_lanes a_o_sizes a_o_items a_o_movedItems o_taped o_at o_wrong o_level o_noRings o_noTones o_noFuel o_pieces o_drags o_all o_noPieces o_noDrags o_kept o_ringFar o_ringTone) H → va_D A (W_X7_ring cyI cyJ cyO h_o a_o_sets a_o_ringFar a_o_ringTone a_o_currents a_o_warmths a_o_depths a_o_tape a_o_readFar a_o_readTone a_o_readSea a_o_code a_o_cellAt a_o_courseAt a_o_paceAt a_o_turnsAt a_o_slowAt a_o_fuelAt a_o_ringAt a_o_pieceParts a_o_dragCell a_o_dragBy a_o_sums a_o_shares a_o_keptFar a_o_image a_o_lanes a_o_sizes a_o_items a_o_movedItems o_taped o_at o_wrong o_level o_noRings o_noTones o_noFuel o_pieces o_drags o_all o_noPieces o_noDrags o_kept o_ringFar o_ringTone) → va_S A s.heap H locs → ∀ (ls : Array Slot), lv_has ls 5 [(0, .ref h_o), (1, .int v1), (2, .int v2), (3, .int v3)] → okP (f_X7_ring_B35 v1 v2 v3 y0 y1 o_ringFar o_ringTone) post → W p l e (headSpec wsX7_ring rm_X7_ring).room s m ([.ref h_o, .int x1, .int x2, .int x3] : List Value).toArray below meth c H locs 0 0 Q (F0 m 35 ls [.long y0, .long y1]) := by
    intro v1 v2 v3 y0 y1 o_ringFar o_ringTone H locs hP hD hS ls hl hw
    unfold f_X7_ring_B35 at hw
    refine lv_iload_n hx hb dX7_ring_35 rfl (lv_at hl 2 rfl) ?_
    refine lv_if_ne (tgt := 45) hx hb dX7_ring_36 (by decide) (fun c_9 => ?_) (fun c_9 => ?_)
    · replace hw := okF hw c_9
      clear c_9
      refine lv_ldc2 (v := 2) hx hb hown hq3 dX7_ring_45 ?_
      exact w48 v1 v2 v3 2 y0 y1 o_ringFar o_ringTone _ _ hP hD hS _ (lv_sub hl [0, 1, 2, 3] rfl) hw
    · replace hw := okT hw c_9
      clear c_9
      refine lv_ldc2 (v := 40) hx hb hown hq4 dX7_ring_39 ?_
      refine lv_goto (tgt := 48) hx hb dX7_ring_42 (by decide) ?_
      exact w48 v1 v2 v3 40 y0 y1 o_ringFar o_ringTone _ _ hP hD hS _ (lv_sub hl [0, 1, 2, 3] rfl) hw
  unfold f_X7_ring at hw
  have hP : va_P (dC, dI) vwCl (W_X7_ring cyI cyJ cyO h_o a_o_sets a_o_ringFar a_o_ringTone a_o_currents a_o_warmths a_o_depths a_o_tape a_o_readFar a_o_readTone a_o_readSea a_o_code a_o_cellAt a_o_courseAt a_o_paceAt a_o_turnsAt a_o_slowAt a_o_fuelAt a_o_ringAt a_o_pieceParts a_o_dragCell a_o_dragBy a_o_sums a_o_shares a_o_keptFar a_o_image a_o_lanes a_o_sizes a_o_items a_o_movedItems o_taped o_at o_wrong o_level o_noRings o_noTones o_noFuel o_pieces o_drags o_all o_noPieces o_noDrags o_kept o_ringFar o_ringTone) s.heap := hP
  obtain ⟨H, hH⟩ : ∃ H, H = s.heap := ⟨_, rfl⟩
  obtain ⟨locs, hlo⟩ : ∃ x : List Loc, x = [] := ⟨_, rfl⟩
  have hP : va_P (dC, dI) vwCl (W_X7_ring cyI cyJ cyO h_o a_o_sets a_o_ringFar a_o_ringTone a_o_currents a_o_warmths a_o_depths a_o_tape a_o_readFar a_o_readTone a_o_readSea a_o_code a_o_cellAt a_o_courseAt a_o_paceAt a_o_turnsAt a_o_slowAt a_o_fuelAt a_o_ringAt a_o_pieceParts a_o_dragCell a_o_dragBy a_o_sums a_o_shares a_o_keptFar a_o_image a_o_lanes a_o_sizes a_o_items a_o_movedItems o_taped o_at o_wrong o_level o_noRings o_noTones o_noFuel o_pieces o_drags o_all o_noPieces o_noDrags o_kept o_ringFar o_ringTone) H := by rw [hH]; exact hP
  have hS : va_S A s.heap H locs := by rw [hH, hlo]; exact hS
  refine kH hH hlo ?_
  clear hH hlo
  refine lv_iload_n hx hb dX7_ring_0 rfl (lv_at hl 1 rfl) ?_
  refine lv_i2l (v := x1.toInt64) hx hb dX7_ring_1 rfl ?_
  refine lv_lconst (v := 1) hx hb dX7_ring_2 (by decide) ?_
  refine lv_ldc2 (v := 6) hx hb hown hq5 dX7_ring_3 ?_
  have hFc := va_free (wc := []) hD hS hA [] rfl
  refine kp_i (va_runS (As := [.long x1.toInt64, .long 1, .long 6]) (rest := []) ⟨hx, hb, hml, hown, hts⟩ (c_X7_in l dC dI cyI cyJ cyO H.size x1.toInt64 1 6 _ (okb1 hw)) (va_cwS 3 hts (gdS (fun w h => List.mem_cons_of_mem _ h) q_838 q_839 q_8 q_840) rfl rfl rfl (by decide +kernel) ⟨Nat.le_of_ble_eq_true rfl, Nat.le_of_ble_eq_true rfl⟩) (kpre zN_ok hK va_P0 va_D0 trivial hS hFc) rfl rfl hl.1 rfl (lv_room (Nat.le_of_ble_eq_true rfl)) dX7_ring_6 ⟨Nat.le_of_ble_eq_true rfl, Nat.le_of_ble_eq_true rfl⟩) hP hD hS hFc (fun r_10 H locs hw hP hS => ?_)
  try dsimp only at hw
  clear hFc
  refine lv_if_eq (tgt := 54) hx hb dX7_ring_9 (by decide) (fun c_11 => ?_) (fun c_11 => ?_)
  · replace hw := okT hw c_11
    clear c_11
    refine lv_iconst (v := (-1)) hx hb dX7_ring_54 (by decide) ?_
    rw [hQ]
    exact W.iret (v := (-1)) hx hb hr (fun t ht hW => ⟨⟨(-1), (o_ringFar, o_ringTone), rfl, okS hw, by rw [ht]; exact hP, va_K.moved hW.alike hK, hD⟩, hS.F ht⟩) hS.2.2 dX7_ring_55
  · replace hw := okF hw c_11
    clear c_11
    refine lv_iload_n hx hb dX7_ring_12 rfl (lv_at hl 2 rfl) ?_
    refine lv_i2l (v := x2.toInt64) hx hb dX7_ring_13 rfl ?_
    refine lv_lconst (v := 0) hx hb dX7_ring_14 (by decide) ?_
    refine lv_lconst (v := 1) hx hb dX7_ring_15 (by decide) ?_
    have hFc := va_free (wc := []) hD hS hA [] rfl
    refine kp_i (va_runS (As := [.long x2.toInt64, .long 0, .long 1]) (rest := []) ⟨hx, hb, hml, hown, hts⟩ (c_X7_in l dC dI cyI cyJ cyO H.size x2.toInt64 0 1 _ (okb1 hw)) (va_cwS 3 hts (gdS (fun w h => List.mem_cons_of_mem _ h) q_838 q_839 q_8 q_840) rfl rfl rfl (by decide +kernel) ⟨Nat.le_of_ble_eq_true rfl, Nat.le_of_ble_eq_true rfl⟩) (kpre zN_ok hK va_P0 va_D0 trivial hS hFc) rfl rfl hl.1 rfl (lv_room (Nat.le_of_ble_eq_true rfl)) dX7_ring_16 ⟨Nat.le_of_ble_eq_true rfl, Nat.le_of_ble_eq_true rfl⟩) hP hD hS hFc (fun r_12 H locs hw hP hS => ?_)
    try dsimp only at hw
    clear hFc
    refine lv_if_eq (tgt := 54) hx hb dX7_ring_19 (by decide) (fun c_13 => ?_) (fun c_13 => ?_)
    · replace hw := okT hw c_13
      clear c_13
      refine lv_iconst (v := (-1)) hx hb dX7_ring_54 (by decide) ?_
      rw [hQ]
      exact W.iret (v := (-1)) hx hb hr (fun t ht hW => ⟨⟨(-1), (o_ringFar, o_ringTone), rfl, okS hw, by rw [ht]; exact hP, va_K.moved hW.alike hK, hD⟩, hS.F ht⟩) hS.2.2 dX7_ring_55
    · replace hw := okF hw c_13
      clear c_13
      refine lv_iload_n hx hb dX7_ring_22 rfl (lv_at hl 3 rfl) ?_
      refine lv_i2l (v := x3.toInt64) hx hb dX7_ring_23 rfl ?_
      refine lv_iload_n hx hb dX7_ring_24 rfl (lv_at hl 2 rfl) ?_
      refine lv_if_ne (tgt := 34) hx hb dX7_ring_25 (by decide) (fun c_14 => ?_) (fun c_14 => ?_)
      · replace hw := okF hw c_14
        clear c_14
        refine lv_lconst (v := 0) hx hb dX7_ring_34 (by decide) ?_
        exact w35 x1 x2 x3 0 x3.toInt64 o_ringFar o_ringTone _ _ hP hD hS _ (lv_sub hl [0, 1, 2, 3] rfl) hw
      · replace hw := okT hw c_14
        clear c_14
        refine lv_ldc2 (v := (-1)) hx hb hown hq6 dX7_ring_28 ?_
        refine lv_goto (tgt := 35) hx hb dX7_ring_31 (by decide) ?_
        exact w35 x1 x2 x3 (-1) x3.toInt64 o_ringFar o_ringTone _ _ hP hD hS _ (lv_sub hl [0, 1, 2, 3] rfl) hw
/-! ===== X7_type ===== -/
theorem dX7_type_0 : decode cX7_type 0 = .ok (.iload_n 3, 1) := by decide +kernel
theorem dX7_type_1 : decode cX7_type 1 = .ok (.i2l, 1) := by decide +kernel
theorem dX7_type_2 : decode cX7_type 2 = .ok (.lconst 1, 1) := by decide +kernel
theorem dX7_type_3 : decode cX7_type 3 = .ok (.ldc2_w 130, 3) := by decide +kernel
theorem dX7_type_6 : decode cX7_type 6 = .ok (.invokestatic 100, 3) := by decide +kernel
theorem dX7_type_9 : decode cX7_type 9 = .ok (.ifCond .ne 5, 3) := by decide +kernel
theorem dX7_type_12 : decode cX7_type 12 = .ok (.iconst (-1), 1) := by decide +kernel
theorem dX7_type_13 : decode cX7_type 13 = .ok (.ireturn, 1) := by decide +kernel
theorem dX7_type_14 : decode cX7_type 14 = .ok (.iconst 0, 1) := by decide +kernel
theorem dX7_type_15 : decode cX7_type 15 = .ok (.istore 4, 2) := by decide +kernel
theorem dX7_type_17 : decode cX7_type 17 = .ok (.iload 4, 2) := by decide +kernel
theorem dX7_type_19 : decode cX7_type 19 = .ok (.iload_n 3, 1) := by decide +kernel
theorem dX7_type_20 : decode cX7_type 20 = .ok (.if_icmp .ge 34, 3) := by decide +kernel
theorem dX7_type_23 : decode cX7_type 23 = .ok (.lload_n 1, 1) := by decide +kernel
theorem dX7_type_24 : decode cX7_type 24 = .ok (.bipush 8, 2) := by decide +kernel
theorem dX7_type_26 : decode cX7_type 26 = .ok (.iload 4, 2) := by decide +kernel
theorem dX7_type_28 : decode cX7_type 28 = .ok (.imul, 1) := by decide +kernel
theorem dX7_type_29 : decode cX7_type 29 = .ok (.lshr, 1) := by decide +kernel
theorem dX7_type_30 : decode cX7_type 30 = .ok (.ldc2_w 132, 3) := by decide +kernel
theorem dX7_type_33 : decode cX7_type 33 = .ok (.land, 1) := by decide +kernel
theorem dX7_type_34 : decode cX7_type 34 = .ok (.ldc2_w 134, 3) := by decide +kernel
theorem dX7_type_37 : decode cX7_type 37 = .ok (.ldc2_w 136, 3) := by decide +kernel
theorem dX7_type_40 : decode cX7_type 40 = .ok (.invokestatic 100, 3) := by decide +kernel
theorem dX7_type_43 : decode cX7_type 43 = .ok (.ifCond .ne 5, 3) := by decide +kernel
theorem dX7_type_46 : decode cX7_type 46 = .ok (.iconst (-1), 1) := by decide +kernel
theorem dX7_type_47 : decode cX7_type 47 = .ok (.ireturn, 1) := by decide +kernel
theorem dX7_type_48 : decode cX7_type 48 = .ok (.iinc 4 1, 3) := by decide +kernel
theorem dX7_type_51 : decode cX7_type 51 = .ok (.goto (-34), 3) := by decide +kernel
theorem dX7_type_54 : decode cX7_type 54 = .ok (.aload_n 0, 1) := by decide +kernel
theorem dX7_type_55 : decode cX7_type 55 = .ok (.getfield 138, 3) := by decide +kernel
theorem dX7_type_58 : decode cX7_type 58 = .ok (.iload_n 3, 1) := by decide +kernel
theorem dX7_type_59 : decode cX7_type 59 = .ok (.iadd, 1) := by decide +kernel
theorem dX7_type_60 : decode cX7_type 60 = .ok (.bipush 60, 2) := by decide +kernel
theorem dX7_type_62 : decode cX7_type 62 = .ok (.if_icmp .le 6, 3) := by decide +kernel
theorem dX7_type_65 : decode cX7_type 65 = .ok (.bipush (-3), 2) := by decide +kernel
theorem dX7_type_67 : decode cX7_type 67 = .ok (.ireturn, 1) := by decide +kernel
theorem dX7_type_68 : decode cX7_type 68 = .ok (.iload_n 3, 1) := by decide +kernel
theorem dX7_type_69 : decode cX7_type 69 = .ok (.iconst 1, 1) := by decide +kernel
theorem dX7_type_70 : decode cX7_type 70 = .ok (.isub, 1) := by decide +kernel
theorem dX7_type_71 : decode cX7_type 71 = .ok (.istore 4, 2) := by decide +kernel
theorem dX7_type_73 : decode cX7_type 73 = .ok (.iload 4, 2) := by decide +kernel
theorem dX7_type_75 : decode cX7_type 75 = .ok (.ifCond .lt 40, 3) := by decide +kernel
theorem dX7_type_78 : decode cX7_type 78 = .ok (.aload_n 0, 1) := by decide +kernel
theorem dX7_type_79 : decode cX7_type 79 = .ok (.getfield 28, 3) := by decide +kernel
theorem dX7_type_82 : decode cX7_type 82 = .ok (.aload_n 0, 1) := by decide +kernel
theorem dX7_type_83 : decode cX7_type 83 = .ok (.getfield 138, 3) := by decide +kernel
theorem dX7_type_86 : decode cX7_type 86 = .ok (.lload_n 1, 1) := by decide +kernel
theorem dX7_type_87 : decode cX7_type 87 = .ok (.bipush 8, 2) := by decide +kernel
theorem dX7_type_89 : decode cX7_type 89 = .ok (.iload 4, 2) := by decide +kernel
theorem dX7_type_91 : decode cX7_type 91 = .ok (.imul, 1) := by decide +kernel
theorem dX7_type_92 : decode cX7_type 92 = .ok (.lshr, 1) := by decide +kernel
theorem dX7_type_93 : decode cX7_type 93 = .ok (.ldc2_w 132, 3) := by decide +kernel
theorem dX7_type_96 : decode cX7_type 96 = .ok (.land, 1) := by decide +kernel
theorem dX7_type_97 : decode cX7_type 97 = .ok (.l2i, 1) := by decide +kernel
theorem dX7_type_98 : decode cX7_type 98 = .ok (.iastore, 1) := by decide +kernel
theorem dX7_type_99 : decode cX7_type 99 = .ok (.aload_n 0, 1) := by decide +kernel
theorem dX7_type_100 : decode cX7_type 100 = .ok (.dup, 1) := by decide +kernel
theorem dX7_type_101 : decode cX7_type 101 = .ok (.getfield 138, 3) := by decide +kernel
theorem dX7_type_104 : decode cX7_type 104 = .ok (.iconst 1, 1) := by decide +kernel
theorem dX7_type_105 : decode cX7_type 105 = .ok (.iadd, 1) := by decide +kernel
theorem dX7_type_106 : decode cX7_type 106 = .ok (.putfield 138, 3) := by decide +kernel
theorem dX7_type_109 : decode cX7_type 109 = .ok (.iinc 4 (-1), 3) := by decide +kernel
theorem dX7_type_112 : decode cX7_type 112 = .ok (.goto (-39), 3) := by decide +kernel
theorem dX7_type_115 : decode cX7_type 115 = .ok (.aload_n 0, 1) := by decide +kernel
theorem dX7_type_116 : decode cX7_type 116 = .ok (.getfield 138, 3) := by decide +kernel
theorem dX7_type_119 : decode cX7_type 119 = .ok (.ireturn, 1) := by decide +kernel
abbrev W_X7_type (cyI cyJ cyO : ClassId) (h_o a_o_sets a_o_ringFar a_o_ringTone a_o_currents a_o_warmths a_o_depths a_o_tape a_o_readFar a_o_readTone a_o_readSea a_o_code a_o_cellAt a_o_courseAt a_o_paceAt a_o_turnsAt a_o_slowAt a_o_fuelAt a_o_ringAt a_o_pieceParts a_o_dragCell a_o_dragBy a_o_sums a_o_shares a_o_keptFar a_o_image a_o_lanes a_o_sizes a_o_items a_o_movedItems : Nat) (o_taped : Int32) (o_at : Int32) (o_wrong : Int32) (o_level : Int32) (o_noRings : Int32) (o_noTones : Int32) (o_noFuel : Int32) (o_pieces : Int32) (o_drags : Int32) (o_all : Int64) (o_noPieces : Int32) (o_noDrags : Int32) (o_kept : Int32) (o_tape : Nat → Int32) : va_W := [(h_o, .inr (7, [.ref a_o_sets, .ref a_o_ringFar, .ref a_o_ringTone, .ref a_o_currents, .ref a_o_warmths, .ref a_o_depths, .ref a_o_tape, .int o_taped, .int o_at, .int o_wrong, .ref a_o_readFar, .ref a_o_readTone, .ref a_o_readSea, .ref a_o_code, .ref a_o_cellAt, .ref a_o_courseAt, .ref a_o_paceAt, .ref a_o_turnsAt, .ref a_o_slowAt, .ref a_o_fuelAt, .ref a_o_ringAt, .int o_level, .int o_noRings, .int o_noTones, .int o_noFuel, .int o_pieces, .ref a_o_pieceParts, .int o_drags, .ref a_o_dragCell, .ref a_o_dragBy, .ref a_o_sums, .long o_all, .int o_noPieces, .int o_noDrags, .ref a_o_shares, .ref a_o_keptFar, .ref a_o_image, .int o_kept, .ref a_o_lanes, .ref a_o_sizes, .ref a_o_items, .ref a_o_movedItems])), (a_o_tape, .inl (cyI, 60, .inl o_tape))]
def f_X7_type_L73b (k73 : Int64 → Int32 → Int32 → (Nat → Int32) → Option (Int32 × Int32 × (Nat → Int32))) (v1 : Int64) (v4 : Int32) (o_taped : Int32) (o_tape : Nat → Int32) : Option (Int32 × Int32 × (Nat → Int32)) :=
  if v4 < 0 then
    some (o_taped, o_taped, o_tape)
  else
    nm (((v1 >>> ((8 * v4).toInt64 &&& 63)) &&& 255).toInt32) fun x_1 =>
    chk (¬ (o_taped < 0 ∨ 60 ≤ o_taped.toNatClampNeg)) <|
    nm (o_taped + 1) fun x_2 =>
    nm (v4 + (-1)) fun x_3 =>
    k73 v1 x_3 x_2 (upd o_tape o_taped.toNatClampNeg x_1)
def f_X7_type_L73 : Nat → Int64 → Int32 → Int32 → (Nat → Int32) → Option (Int32 × Int32 × (Nat → Int32))
  | 0 => fun _ _ _ _ => none
  | n + 1 => f_X7_type_L73b (f_X7_type_L73 n)
def f_X7_type_L17b (k17 : Int64 → Int32 → Int32 → Int32 → (Nat → Int32) → Option (Int32 × Int32 × (Nat → Int32))) (v1 : Int64) (v3 : Int32) (v4 : Int32) (o_taped : Int32) (o_tape : Nat → Int32) : Option (Int32 × Int32 × (Nat → Int32)) :=
  if v3 ≤ v4 then
    if (o_taped + v3) ≤ 60 then
      nm (v3 - 1) fun x_4 =>
      f_X7_type_L73 FU v1 x_4 o_taped o_tape
    else
      some ((-3), o_taped, o_tape)
  else
    bd1 (f_X7_in ((v1 >>> ((8 * v4).toInt64 &&& 63)) &&& 255) 32 126) fun r_5 =>
    if r_5 = 0 then
      some ((-1), o_taped, o_tape)
    else
      nm (v4 + 1) fun x_6 =>
      k17 v1 v3 x_6 o_taped o_tape
def f_X7_type_L17 : Nat → Int64 → Int32 → Int32 → Int32 → (Nat → Int32) → Option (Int32 × Int32 × (Nat → Int32))
  | 0 => fun _ _ _ _ _ => none
  | n + 1 => f_X7_type_L17b (f_X7_type_L17 n)
def f_X7_type (x1 : Int64) (x2 : Int32) (o_taped : Int32) (o_tape : Nat → Int32) : Option (Int32 × Int32 × (Nat → Int32)) :=
  bd1 (f_X7_in x2.toInt64 1 8) fun r_7 =>
  if r_7 = 0 then
    some ((-1), o_taped, o_tape)
  else
    f_X7_type_L17 FU x1 x2 0 o_taped o_tape
abbrev rm_X7_type : Room := { frames := 1, cells := 0, slots := 0, locals := 25 }
set_option maxRecDepth 100000 in
set_option maxHeartbeats 4000000 in
theorem c_X7_type (l : Launch) (dC : Nat → ClassId) (dI : Nat → Nat → Nat) (cyI cyJ cyO : ClassId) (sz : Nat) (h_o a_o_sets a_o_ringFar a_o_ringTone a_o_currents a_o_warmths a_o_depths a_o_tape a_o_readFar a_o_readTone a_o_readSea a_o_code a_o_cellAt a_o_courseAt a_o_paceAt a_o_turnsAt a_o_slowAt a_o_fuelAt a_o_ringAt a_o_pieceParts a_o_dragCell a_o_dragBy a_o_sums a_o_shares a_o_keptFar a_o_image a_o_lanes a_o_sizes a_o_items a_o_movedItems : Nat) (o_taped : Int32) (o_at : Int32) (o_wrong : Int32) (o_level : Int32) (o_noRings : Int32) (o_noTones : Int32) (o_noFuel : Int32) (o_pieces : Int32) (o_drags : Int32) (o_all : Int64) (o_noPieces : Int32) (o_noDrags : Int32) (o_kept : Int32) (o_tape : Nat → Int32) (x1 : Int64) (x2 : Int32) (post : (Int32 × Int32 × (Nat → Int32)) → Prop) (hf : okP (f_X7_type x1 x2 o_taped o_tape) post) : Ci l (dC, dI) (tyL cyI cyJ cyO) yX7_type wsX7_type rm_X7_type [.ref h_o, .long x1, .int x2] sz (W_X7_type cyI cyJ cyO h_o a_o_sets a_o_ringFar a_o_ringTone a_o_currents a_o_warmths a_o_depths a_o_tape a_o_readFar a_o_readTone a_o_readSea a_o_code a_o_cellAt a_o_courseAt a_o_paceAt a_o_turnsAt a_o_slowAt a_o_fuelAt a_o_ringAt a_o_pieceParts a_o_dragCell a_o_dragBy a_o_sums a_o_shares a_o_keptFar a_o_image a_o_lanes a_o_sizes a_o_items a_o_movedItems o_taped o_at o_wrong o_level o_noRings o_noTones o_noFuel o_pieces o_drags o_all o_noPieces o_noDrags o_kept o_tape) zN (fun r u => post (r, u)) (fun u => (W_X7_type cyI cyJ cyO h_o a_o_sets a_o_ringFar a_o_ringTone a_o_currents a_o_warmths a_o_depths a_o_tape a_o_readFar a_o_readTone a_o_readSea a_o_code a_o_cellAt a_o_courseAt a_o_paceAt a_o_turnsAt a_o_slowAt a_o_fuelAt a_o_ringAt a_o_pieceParts a_o_dragCell a_o_dragBy a_o_sums a_o_shares a_o_keptFar a_o_image a_o_lanes a_o_sizes a_o_items a_o_movedItems u.1 o_at o_wrong o_level o_noRings o_noTones o_noFuel o_pieces o_drags o_all o_noPieces o_noDrags o_kept u.2)) := by
  refine Met.ofW (cc := cX7_type) (maxL := 5) (ret := (some .int)) (by decide) rfl ?_
  intro p e s m args below meth c s₁ B hml hv
  obtain ⟨rfl, hsz, hP, hK, hD0, hZ⟩ := hv
  have hx := B.exec
  have hb := B.bytes
  have hr := B.returns
  have hts := atoms_spec (ws := wsX7_type) B.pre
  have hown : s.vm.findClass RX7 = some m.cls := findClass_of_methodNamed B.named
  have hlocks := B.notSynchronized
  subst hsz
  have hD := hD0.self (sz := s.heap.size)
  generalize hAe : va_A (W_X7_type cyI cyJ cyO h_o a_o_sets a_o_ringFar a_o_ringTone a_o_currents a_o_warmths a_o_depths a_o_tape a_o_readFar a_o_readTone a_o_readSea a_o_code a_o_cellAt a_o_courseAt a_o_paceAt a_o_turnsAt a_o_slowAt a_o_fuelAt a_o_ringAt a_o_pieceParts a_o_dragCell a_o_dragBy a_o_sums a_o_shares a_o_keptFar a_o_image a_o_lanes a_o_sizes a_o_items a_o_movedItems o_taped o_at o_wrong o_level o_noRings o_noTones o_noFuel o_pieces o_drags o_all o_noPieces o_noDrags o_kept o_tape) s.heap.size = A at hD hZ ⊢
  have hA : ∀ q : Nat, s.heap.size ≤ q → A q := fun q h => by rw [← hAe]; exact Or.inr h
  clear hAe hD0
  have hS : va_S A s.heap s.heap [] := va_S.rf
  have hl := lv_entry ([.ref h_o, .long x1, .int x2]) (n := 5) (Nat.le_of_ble_eq_true rfl)
  rw [lg_entry_eq]
  generalize (lg_sl ([.ref h_o, .long x1, .int x2]) ++ List.replicate (5 - (lg_sl ([.ref h_o, .long x1, .int x2])).length) Slot.unset).toArray = ls at hl ⊢
  have hl : lv_has ls 5 [(0, .ref h_o), (1, .long x1), (3, .int x2)] := hl
  refine kW (fun Q hQ => ?_)
  have hq0 := hts _ (List.mem_cons_of_mem _ q_713)
  have hi7 : ∀ w ∈ u_ws RX7 TX7 42, w ∈ wsX7_type := fun w h => List.mem_cons_of_mem _ (inX7 w h)
  have hq2 := hts _ (List.mem_cons_of_mem _ q_712)
  have hq3 := hts _ (List.mem_cons_of_mem _ q_866)
  have hq4 := hts _ (List.mem_cons_of_mem _ q_867)
  have hq5 := hts _ (List.mem_cons_of_mem _ q_868)
  have hq6 := hts _ (List.mem_cons_of_mem _ q_865)
  have hw := hf
  have w73 : ∀ (n : Nat), ∀ (v1 : Int64) (v4 : Int32) (o_taped : Int32) (o_tape : Nat → Int32) (H : Heap) (locs : List Loc), va_P (dC, dI) vwCl (W_X7_type cyI cyJ cyO h_o a_o_sets a_o_ringFar a_o_ringTone a_o_currents a_o_warmths a_o_depths a_o_tape a_o_readFar a_o_readTone a_o_readSea a_o_code a_o_cellAt a_o_courseAt a_o_paceAt a_o_turnsAt a_o_slowAt a_o_fuelAt a_o_ringAt a_o_pieceParts a_o_dragCell a_o_dragBy a_o_sums a_o_shares a_o_keptFar a_o_image a_o_lanes a_o_sizes a_o_items a_o_movedItems o_taped o_at o_wrong o_level o_noRings o_noTones o_noFuel o_pieces o_drags o_all o_noPieces o_noDrags o_kept o_tape) H → va_D A (W_X7_type cyI cyJ cyO h_o a_o_sets a_o_ringFar a_o_ringTone a_o_currents a_o_warmths a_o_depths a_o_tape a_o_readFar a_o_readTone a_o_readSea a_o_code a_o_cellAt a_o_courseAt a_o_paceAt a_o_turnsAt a_o_slowAt a_o_fuelAt a_o_ringAt a_o_pieceParts a_o_dragCell a_o_dragBy a_o_sums a_o_shares a_o_keptFar a_o_image a_o_lanes a_o_sizes a_o_items a_o_movedItems o_taped o_at o_wrong o_level o_noRings o_noTones o_noFuel o_pieces o_drags o_all o_noPieces o_noDrags o_kept o_tape) → va_S A s.heap H locs → ∀ (ls : Array Slot), lv_has ls 5 [(0, .ref h_o), (1, .long v1), (4, .int v4)] → okP (f_X7_type_L73 n v1 v4 o_taped o_tape) post → W p l e (headSpec wsX7_type rm_X7_type).room s m ([.ref h_o, .long x1, .int x2] : List Value).toArray below meth c H locs 0 0 Q (F0 m 73 ls []) := by
    intro n
    induction n with
    | zero =>
      intro v1 v4 o_taped o_tape H locs hP hD hS ls hl hw
      exact (ok0 hw).elim
    | succ n73 ih73 =>
      intro v1 v4 o_taped o_tape H locs hP hD hS ls hl hw
      replace hw : okP (f_X7_type_L73b (f_X7_type_L73 n73) v1 v4 o_taped o_tape) post := hw
      unfold f_X7_type_L73b at hw
      refine lv_iload hx hb dX7_type_73 (lv_at hl 2 rfl) ?_
      refine lv_if_lt (tgt := 115) hx hb dX7_type_75 (by decide) (fun c_1 => ?_) (fun c_1 => ?_)
      · replace hw := okT hw c_1
        clear c_1
        refine lv_aload_n hx hb dX7_type_115 rfl (lv_at hl 0 rfl) ?_
        refine va_get (D := (dC, dI)) (ci := 7) (v := .int o_taped) (C := RX7) (T := TX7) (N := 42) hx hb hts hi7 hown hK hP 0 rfl rfl 7 (by decide) hq0 (fun _ h9 => h9) rfl dX7_type_116 ?_
        rw [hQ]
        exact W.iret (v := o_taped) hx hb hr (fun t ht hW => ⟨⟨o_taped, (o_taped, o_tape), rfl, okS hw, by rw [ht]; exact hP, va_K.moved hW.alike hK, hD⟩, hS.F ht⟩) hS.2.2 dX7_type_119
      · replace hw := okF hw c_1
        clear c_1
        refine lv_aload_n hx hb dX7_type_78 rfl (lv_at hl 0 rfl) ?_
        refine va_get (D := (dC, dI)) (ci := 7) (v := .ref a_o_tape) (C := RX7) (T := TX7) (N := 42) hx hb hts hi7 hown hK hP 0 rfl rfl 6 (by decide) hq2 (fun _ h9 => h9) rfl dX7_type_79 ?_
        refine lv_aload_n hx hb dX7_type_82 rfl (lv_at hl 0 rfl) ?_
        refine va_get (D := (dC, dI)) (ci := 7) (v := .int o_taped) (C := RX7) (T := TX7) (N := 42) hx hb hts hi7 hown hK hP 0 rfl rfl 7 (by decide) hq0 (fun _ h9 => h9) rfl dX7_type_83 ?_
        refine lv_lload_n hx hb dX7_type_86 rfl (lv_at hl 1 rfl) ?_
        refine lv_bipush (v := 8) hx hb dX7_type_87 (by decide) ?_
        refine lv_iload hx hb dX7_type_89 (lv_at hl 2 rfl) ?_
        refine lv_imul hx hb dX7_type_91 ?_
        refine lv_lshr (v := v1 >>> ((8 * v4).toInt64 &&& 63)) hx hb dX7_type_92 rfl ?_
        refine lv_ldc2 (v := 255) hx hb hown hq3 dX7_type_93 ?_
        refine lv_land hx hb dX7_type_96 ?_
        refine lv_l2i (v := ((v1 >>> ((8 * v4).toInt64 &&& 63)) &&& 255).toInt32) hx hb dX7_type_97 rfl ?_
        refine lv_topi (fun x_2 ex_2 => ?_)
        replace hw := okN ex_2 hw
        clear ex_2
        obtain ⟨h_3, hw⟩ := okC hw
        refine va_iast (i := o_taped) (x := x_2) hx hb hK hP hD hS 1 0 rfl rfl h_3 dX7_type_98 (fun H locs hP hD hS => ?_)
        have hP : va_P (dC, dI) vwCl (W_X7_type cyI cyJ cyO h_o a_o_sets a_o_ringFar a_o_ringTone a_o_currents a_o_warmths a_o_depths a_o_tape a_o_readFar a_o_readTone a_o_readSea a_o_code a_o_cellAt a_o_courseAt a_o_paceAt a_o_turnsAt a_o_slowAt a_o_fuelAt a_o_ringAt a_o_pieceParts a_o_dragCell a_o_dragBy a_o_sums a_o_shares a_o_keptFar a_o_image a_o_lanes a_o_sizes a_o_items a_o_movedItems o_taped o_at o_wrong o_level o_noRings o_noTones o_noFuel o_pieces o_drags o_all o_noPieces o_noDrags o_kept (upd o_tape o_taped.toNatClampNeg x_2)) H := hP
        have hD : va_D A (W_X7_type cyI cyJ cyO h_o a_o_sets a_o_ringFar a_o_ringTone a_o_currents a_o_warmths a_o_depths a_o_tape a_o_readFar a_o_readTone a_o_readSea a_o_code a_o_cellAt a_o_courseAt a_o_paceAt a_o_turnsAt a_o_slowAt a_o_fuelAt a_o_ringAt a_o_pieceParts a_o_dragCell a_o_dragBy a_o_sums a_o_shares a_o_keptFar a_o_image a_o_lanes a_o_sizes a_o_items a_o_movedItems o_taped o_at o_wrong o_level o_noRings o_noTones o_noFuel o_pieces o_drags o_all o_noPieces o_noDrags o_kept (upd o_tape o_taped.toNatClampNeg x_2)) := hD
        refine lv_aload_n hx hb dX7_type_99 rfl (lv_at hl 0 rfl) ?_
        refine lv_dup hx hb dX7_type_100 rfl ?_
        refine va_get (D := (dC, dI)) (ci := 7) (v := .int o_taped) (C := RX7) (T := TX7) (N := 42) hx hb hts hi7 hown hK hP 0 rfl rfl 7 (by decide) hq0 (fun _ h9 => h9) rfl dX7_type_101 ?_
        refine lv_iconst (v := 1) hx hb dX7_type_104 (by decide) ?_
        refine lv_iadd hx hb dX7_type_105 ?_
        refine lv_topi (fun x_4 ex_4 => ?_)
        replace hw := okN ex_4 hw
        clear ex_4
        refine va_put (D := (dC, dI)) (ci := 7) (v := .int x_4) (ty := .int) (C := RX7) (T := TX7) (N := 42) hx hb hts hi7 tyX7 tyX7_ok nmX7 hown hK hP hD hS 0 rfl rfl 7 (by decide) hq0 (fun _ h9 => h9) rfl (by decide +kernel) rfl rfl (Nat.le_of_ble_eq_true rfl) dX7_type_106 (fun H locs hP hD hS => ?_)
        have hP : va_P (dC, dI) vwCl (W_X7_type cyI cyJ cyO h_o a_o_sets a_o_ringFar a_o_ringTone a_o_currents a_o_warmths a_o_depths a_o_tape a_o_readFar a_o_readTone a_o_readSea a_o_code a_o_cellAt a_o_courseAt a_o_paceAt a_o_turnsAt a_o_slowAt a_o_fuelAt a_o_ringAt a_o_pieceParts a_o_dragCell a_o_dragBy a_o_sums a_o_shares a_o_keptFar a_o_image a_o_lanes a_o_sizes a_o_items a_o_movedItems x_4 o_at o_wrong o_level o_noRings o_noTones o_noFuel o_pieces o_drags o_all o_noPieces o_noDrags o_kept (upd o_tape o_taped.toNatClampNeg x_2)) H := hP
        have hD : va_D A (W_X7_type cyI cyJ cyO h_o a_o_sets a_o_ringFar a_o_ringTone a_o_currents a_o_warmths a_o_depths a_o_tape a_o_readFar a_o_readTone a_o_readSea a_o_code a_o_cellAt a_o_courseAt a_o_paceAt a_o_turnsAt a_o_slowAt a_o_fuelAt a_o_ringAt a_o_pieceParts a_o_dragCell a_o_dragBy a_o_sums a_o_shares a_o_keptFar a_o_image a_o_lanes a_o_sizes a_o_items a_o_movedItems x_4 o_at o_wrong o_level o_noRings o_noTones o_noFuel o_pieces o_drags o_all o_noPieces o_noDrags o_kept (upd o_tape o_taped.toNatClampNeg x_2)) := hD
        obtain ⟨x_5, ex_5⟩ : ∃ y : Int32, y = v4 + (-1) := ⟨_, rfl⟩
        replace hw := okN ex_5 hw
        refine lv_iinc (v := x_5) (lv' := [(4, .int x_5), (0, .ref h_o), (1, .long v1)]) hx hb dX7_type_109 hl (k := 2) rfl (by rw [ex_5]; rfl) (by decide) rfl (fun ls hl => ?_)
        clear ex_5
        refine lv_goto (tgt := 73) hx hb dX7_type_112 (by decide) ?_
        exact ih73 v1 x_5 x_4 (upd o_tape o_taped.toNatClampNeg x_2) _ _ hP hD hS _ (lv_sub hl [1, 2, 0] rfl) hw
  have w17 : ∀ (n : Nat), ∀ (v1 : Int64) (v3 : Int32) (v4 : Int32) (o_taped : Int32) (o_tape : Nat → Int32) (H : Heap) (locs : List Loc), va_P (dC, dI) vwCl (W_X7_type cyI cyJ cyO h_o a_o_sets a_o_ringFar a_o_ringTone a_o_currents a_o_warmths a_o_depths a_o_tape a_o_readFar a_o_readTone a_o_readSea a_o_code a_o_cellAt a_o_courseAt a_o_paceAt a_o_turnsAt a_o_slowAt a_o_fuelAt a_o_ringAt a_o_pieceParts a_o_dragCell a_o_dragBy a_o_sums a_o_shares a_o_keptFar a_o_image a_o_lanes a_o_sizes a_o_items a_o_movedItems o_taped o_at o_wrong o_level o_noRings o_noTones o_noFuel o_pieces o_drags o_all o_noPieces o_noDrags o_kept o_tape) H → va_D A (W_X7_type cyI cyJ cyO h_o a_o_sets a_o_ringFar a_o_ringTone a_o_currents a_o_warmths a_o_depths a_o_tape a_o_readFar a_o_readTone a_o_readSea a_o_code a_o_cellAt a_o_courseAt a_o_paceAt a_o_turnsAt a_o_slowAt a_o_fuelAt a_o_ringAt a_o_pieceParts a_o_dragCell a_o_dragBy a_o_sums a_o_shares a_o_keptFar a_o_image a_o_lanes a_o_sizes a_o_items a_o_movedItems o_taped o_at o_wrong o_level o_noRings o_noTones o_noFuel o_pieces o_drags o_all o_noPieces o_noDrags o_kept o_tape) → va_S A s.heap H locs → ∀ (ls : Array Slot), lv_has ls 5 [(0, .ref h_o), (1, .long v1), (3, .int v3), (4, .int v4)] → okP (f_X7_type_L17 n v1 v3 v4 o_taped o_tape) post → W p l e (headSpec wsX7_type rm_X7_type).room s m ([.ref h_o, .long x1, .int x2] : List Value).toArray below meth c H locs 0 0 Q (F0 m 17 ls []) := by
    intro n
    induction n with
    | zero =>
      intro v1 v3 v4 o_taped o_tape H locs hP hD hS ls hl hw
      exact (ok0 hw).elim
    | succ n17 ih17 =>
      intro v1 v3 v4 o_taped o_tape H locs hP hD hS ls hl hw
      replace hw : okP (f_X7_type_L17b (f_X7_type_L17 n17) v1 v3 v4 o_taped o_tape) post := hw
      unfold f_X7_type_L17b at hw
      refine lv_iload hx hb dX7_type_17 (lv_at hl 3 rfl) ?_
      refine lv_iload_n hx hb dX7_type_19 rfl (lv_at hl 2 rfl) ?_
      refine lv_icmp_ge (tgt := 54) hx hb dX7_type_20 (by decide) (fun c_6 => ?_) (fun c_6 => ?_)
      · replace hw := okT hw c_6
        clear c_6
        refine lv_aload_n hx hb dX7_type_54 rfl (lv_at hl 0 rfl) ?_
        refine va_get (D := (dC, dI)) (ci := 7) (v := .int o_taped) (C := RX7) (T := TX7) (N := 42) hx hb hts hi7 hown hK hP 0 rfl rfl 7 (by decide) hq0 (fun _ h9 => h9) rfl dX7_type_55 ?_
        refine lv_iload_n hx hb dX7_type_58 rfl (lv_at hl 2 rfl) ?_
        refine lv_iadd hx hb dX7_type_59 ?_
        refine lv_bipush (v := 60) hx hb dX7_type_60 (by decide) ?_
        refine lv_icmp_le (tgt := 68) hx hb dX7_type_62 (by decide) (fun c_7 => ?_) (fun c_7 => ?_)
        · replace hw := okT hw c_7
          clear c_7
          refine lv_iload_n hx hb dX7_type_68 rfl (lv_at hl 2 rfl) ?_
          refine lv_iconst (v := 1) hx hb dX7_type_69 (by decide) ?_
          refine lv_isub hx hb dX7_type_70 ?_
          refine lv_topi (fun x_8 ex_8 => ?_)
          replace hw := okN ex_8 hw
          clear ex_8
          refine lv_istore (lv' := [(4, .int x_8), (0, .ref h_o), (1, .long v1), (3, .int v3)]) hx hb dX7_type_71 hl (by decide) rfl (fun ls hl => ?_)
          exact w73 FU v1 x_8 o_taped o_tape _ _ hP hD hS _ (lv_sub hl [1, 2, 0] rfl) hw
        · replace hw := okF hw c_7
          clear c_7
          refine lv_bipush (v := (-3)) hx hb dX7_type_65 (by decide) ?_
          rw [hQ]
          exact W.iret (v := (-3)) hx hb hr (fun t ht hW => ⟨⟨(-3), (o_taped, o_tape), rfl, okS hw, by rw [ht]; exact hP, va_K.moved hW.alike hK, hD⟩, hS.F ht⟩) hS.2.2 dX7_type_67
      · replace hw := okF hw c_6
        clear c_6
        refine lv_lload_n hx hb dX7_type_23 rfl (lv_at hl 1 rfl) ?_
        refine lv_bipush (v := 8) hx hb dX7_type_24 (by decide) ?_
        refine lv_iload hx hb dX7_type_26 (lv_at hl 3 rfl) ?_
        refine lv_imul hx hb dX7_type_28 ?_
        refine lv_lshr (v := v1 >>> ((8 * v4).toInt64 &&& 63)) hx hb dX7_type_29 rfl ?_
        refine lv_ldc2 (v := 255) hx hb hown hq3 dX7_type_30 ?_
        refine lv_land hx hb dX7_type_33 ?_
        refine lv_ldc2 (v := 32) hx hb hown hq4 dX7_type_34 ?_
        refine lv_ldc2 (v := 126) hx hb hown hq5 dX7_type_37 ?_
        have hFc := va_free (wc := []) hD hS hA [] rfl
        refine kp_i (va_runS (As := [.long ((v1 >>> ((8 * v4).toInt64 &&& 63)) &&& 255), .long 32, .long 126]) (rest := []) ⟨hx, hb, hml, hown, hts⟩ (c_X7_in l dC dI cyI cyJ cyO H.size ((v1 >>> ((8 * v4).toInt64 &&& 63)) &&& 255) 32 126 _ (okb1 hw)) (va_cwS 3 hts (gdS (fun w h => List.mem_cons_of_mem _ h) q_838 q_839 q_8 q_840) rfl rfl rfl (by decide +kernel) ⟨Nat.le_of_ble_eq_true rfl, Nat.le_of_ble_eq_true rfl⟩) (kpre zN_ok hK va_P0 va_D0 trivial hS hFc) rfl rfl hl.1 rfl (lv_room (Nat.le_of_ble_eq_true rfl)) dX7_type_40 ⟨Nat.le_of_ble_eq_true rfl, Nat.le_of_ble_eq_true rfl⟩) hP hD hS hFc (fun r_9 H locs hw hP hS => ?_)
        try dsimp only at hw
        clear hFc
        refine lv_if_ne (tgt := 48) hx hb dX7_type_43 (by decide) (fun c_10 => ?_) (fun c_10 => ?_)
        · replace hw := okF hw c_10
          clear c_10
          obtain ⟨x_11, ex_11⟩ : ∃ y : Int32, y = v4 + 1 := ⟨_, rfl⟩
          replace hw := okN ex_11 hw
          refine lv_iinc (v := x_11) (lv' := [(4, .int x_11), (0, .ref h_o), (1, .long v1), (3, .int v3)]) hx hb dX7_type_48 hl (k := 3) rfl (by rw [ex_11]; rfl) (by decide) rfl (fun ls hl => ?_)
          clear ex_11
          refine lv_goto (tgt := 17) hx hb dX7_type_51 (by decide) ?_
          exact ih17 v1 v3 x_11 o_taped o_tape _ _ hP hD hS _ (lv_sub hl [1, 2, 3, 0] rfl) hw
        · replace hw := okT hw c_10
          clear c_10
          refine lv_iconst (v := (-1)) hx hb dX7_type_46 (by decide) ?_
          rw [hQ]
          exact W.iret (v := (-1)) hx hb hr (fun t ht hW => ⟨⟨(-1), (o_taped, o_tape), rfl, okS hw, by rw [ht]; exact hP, va_K.moved hW.alike hK, hD⟩, hS.F ht⟩) hS.2.2 dX7_type_47
  unfold f_X7_type at hw
  have hP : va_P (dC, dI) vwCl (W_X7_type cyI cyJ cyO h_o a_o_sets a_o_ringFar a_o_ringTone a_o_currents a_o_warmths a_o_depths a_o_tape a_o_readFar a_o_readTone a_o_readSea a_o_code a_o_cellAt a_o_courseAt a_o_paceAt a_o_turnsAt a_o_slowAt a_o_fuelAt a_o_ringAt a_o_pieceParts a_o_dragCell a_o_dragBy a_o_sums a_o_shares a_o_keptFar a_o_image a_o_lanes a_o_sizes a_o_items a_o_movedItems o_taped o_at o_wrong o_level o_noRings o_noTones o_noFuel o_pieces o_drags o_all o_noPieces o_noDrags o_kept o_tape) s.heap := hP
  obtain ⟨H, hH⟩ : ∃ H, H = s.heap := ⟨_, rfl⟩
  obtain ⟨locs, hlo⟩ : ∃ x : List Loc, x = [] := ⟨_, rfl⟩
  have hP : va_P (dC, dI) vwCl (W_X7_type cyI cyJ cyO h_o a_o_sets a_o_ringFar a_o_ringTone a_o_currents a_o_warmths a_o_depths a_o_tape a_o_readFar a_o_readTone a_o_readSea a_o_code a_o_cellAt a_o_courseAt a_o_paceAt a_o_turnsAt a_o_slowAt a_o_fuelAt a_o_ringAt a_o_pieceParts a_o_dragCell a_o_dragBy a_o_sums a_o_shares a_o_keptFar a_o_image a_o_lanes a_o_sizes a_o_items a_o_movedItems o_taped o_at o_wrong o_level o_noRings o_noTones o_noFuel o_pieces o_drags o_all o_noPieces o_noDrags o_kept o_tape) H := by rw [hH]; exact hP
  have hS : va_S A s.heap H locs := by rw [hH, hlo]; exact hS
  refine kH hH hlo ?_
  clear hH hlo
  refine lv_iload_n hx hb dX7_type_0 rfl (lv_at hl 2 rfl) ?_
  refine lv_i2l (v := x2.toInt64) hx hb dX7_type_1 rfl ?_
  refine lv_lconst (v := 1) hx hb dX7_type_2 (by decide) ?_
  refine lv_ldc2 (v := 8) hx hb hown hq6 dX7_type_3 ?_
  have hFc := va_free (wc := []) hD hS hA [] rfl
  refine kp_i (va_runS (As := [.long x2.toInt64, .long 1, .long 8]) (rest := []) ⟨hx, hb, hml, hown, hts⟩ (c_X7_in l dC dI cyI cyJ cyO H.size x2.toInt64 1 8 _ (okb1 hw)) (va_cwS 3 hts (gdS (fun w h => List.mem_cons_of_mem _ h) q_838 q_839 q_8 q_840) rfl rfl rfl (by decide +kernel) ⟨Nat.le_of_ble_eq_true rfl, Nat.le_of_ble_eq_true rfl⟩) (kpre zN_ok hK va_P0 va_D0 trivial hS hFc) rfl rfl hl.1 rfl (lv_room (Nat.le_of_ble_eq_true rfl)) dX7_type_6 ⟨Nat.le_of_ble_eq_true rfl, Nat.le_of_ble_eq_true rfl⟩) hP hD hS hFc (fun r_12 H locs hw hP hS => ?_)
  try dsimp only at hw
  clear hFc
  refine lv_if_ne (tgt := 14) hx hb dX7_type_9 (by decide) (fun c_13 => ?_) (fun c_13 => ?_)
  · replace hw := okF hw c_13
    clear c_13
    refine lv_iconst (v := 0) hx hb dX7_type_14 (by decide) ?_
    refine lv_istore (lv' := [(4, .int 0), (0, .ref h_o), (1, .long x1), (3, .int x2)]) hx hb dX7_type_15 hl (by decide) rfl (fun ls hl => ?_)
    exact w17 FU x1 x2 0 o_taped o_tape _ _ hP hD hS _ (lv_sub hl [1, 2, 3, 0] rfl) hw
  · replace hw := okT hw c_13
    clear c_13
    refine lv_iconst (v := (-1)) hx hb dX7_type_12 (by decide) ?_
    rw [hQ]
    exact W.iret (v := (-1)) hx hb hr (fun t ht hW => ⟨⟨(-1), (o_taped, o_tape), rfl, okS hw, by rw [ht]; exact hP, va_K.moved hW.alike hK, hD⟩, hS.F ht⟩) hS.2.2 dX7_type_13
/-! ===== X7_here ===== -/
theorem dX7_here_0 : decode cX7_here 0 = .ok (.aload_n 0, 1) := by decide +kernel
theorem dX7_here_1 : decode cX7_here 1 = .ok (.getfield 142, 3) := by decide +kernel
theorem dX7_here_4 : decode cX7_here 4 = .ok (.aload_n 0, 1) := by decide +kernel
theorem dX7_here_5 : decode cX7_here 5 = .ok (.getfield 138, 3) := by decide +kernel
theorem dX7_here_8 : decode cX7_here 8 = .ok (.if_icmp .ge 30, 3) := by decide +kernel
theorem dX7_here_11 : decode cX7_here 11 = .ok (.aload_n 0, 1) := by decide +kernel
theorem dX7_here_12 : decode cX7_here 12 = .ok (.getfield 28, 3) := by decide +kernel
theorem dX7_here_15 : decode cX7_here 15 = .ok (.aload_n 0, 1) := by decide +kernel
theorem dX7_here_16 : decode cX7_here 16 = .ok (.getfield 142, 3) := by decide +kernel
theorem dX7_here_19 : decode cX7_here 19 = .ok (.iaload, 1) := by decide +kernel
theorem dX7_here_20 : decode cX7_here 20 = .ok (.bipush 32, 2) := by decide +kernel
theorem dX7_here_22 : decode cX7_here 22 = .ok (.if_icmp .ne 16, 3) := by decide +kernel
theorem dX7_here_25 : decode cX7_here 25 = .ok (.aload_n 0, 1) := by decide +kernel
theorem dX7_here_26 : decode cX7_here 26 = .ok (.dup, 1) := by decide +kernel
theorem dX7_here_27 : decode cX7_here 27 = .ok (.getfield 142, 3) := by decide +kernel
theorem dX7_here_30 : decode cX7_here 30 = .ok (.iconst 1, 1) := by decide +kernel
theorem dX7_here_31 : decode cX7_here 31 = .ok (.iadd, 1) := by decide +kernel
theorem dX7_here_32 : decode cX7_here 32 = .ok (.putfield 142, 3) := by decide +kernel
theorem dX7_here_35 : decode cX7_here 35 = .ok (.goto (-35), 3) := by decide +kernel
theorem dX7_here_38 : decode cX7_here 38 = .ok (.aload_n 0, 1) := by decide +kernel
theorem dX7_here_39 : decode cX7_here 39 = .ok (.getfield 142, 3) := by decide +kernel
theorem dX7_here_42 : decode cX7_here 42 = .ok (.aload_n 0, 1) := by decide +kernel
theorem dX7_here_43 : decode cX7_here 43 = .ok (.getfield 138, 3) := by decide +kernel
theorem dX7_here_46 : decode cX7_here 46 = .ok (.if_icmp .ge 15, 3) := by decide +kernel
theorem dX7_here_49 : decode cX7_here 49 = .ok (.aload_n 0, 1) := by decide +kernel
theorem dX7_here_50 : decode cX7_here 50 = .ok (.getfield 28, 3) := by decide +kernel
theorem dX7_here_53 : decode cX7_here 53 = .ok (.aload_n 0, 1) := by decide +kernel
theorem dX7_here_54 : decode cX7_here 54 = .ok (.getfield 142, 3) := by decide +kernel
theorem dX7_here_57 : decode cX7_here 57 = .ok (.iaload, 1) := by decide +kernel
theorem dX7_here_58 : decode cX7_here 58 = .ok (.goto 4, 3) := by decide +kernel
theorem dX7_here_61 : decode cX7_here 61 = .ok (.iconst 0, 1) := by decide +kernel
theorem dX7_here_62 : decode cX7_here 62 = .ok (.ireturn, 1) := by decide +kernel
abbrev W_X7_here (cyI cyJ cyO : ClassId) (h_o a_o_sets a_o_ringFar a_o_ringTone a_o_currents a_o_warmths a_o_depths a_o_tape a_o_readFar a_o_readTone a_o_readSea a_o_code a_o_cellAt a_o_courseAt a_o_paceAt a_o_turnsAt a_o_slowAt a_o_fuelAt a_o_ringAt a_o_pieceParts a_o_dragCell a_o_dragBy a_o_sums a_o_shares a_o_keptFar a_o_image a_o_lanes a_o_sizes a_o_items a_o_movedItems : Nat) (o_taped : Int32) (o_at : Int32) (o_wrong : Int32) (o_level : Int32) (o_noRings : Int32) (o_noTones : Int32) (o_noFuel : Int32) (o_pieces : Int32) (o_drags : Int32) (o_all : Int64) (o_noPieces : Int32) (o_noDrags : Int32) (o_kept : Int32) (o_tape : Nat → Int32) : va_W := [(h_o, .inr (7, [.ref a_o_sets, .ref a_o_ringFar, .ref a_o_ringTone, .ref a_o_currents, .ref a_o_warmths, .ref a_o_depths, .ref a_o_tape, .int o_taped, .int o_at, .int o_wrong, .ref a_o_readFar, .ref a_o_readTone, .ref a_o_readSea, .ref a_o_code, .ref a_o_cellAt, .ref a_o_courseAt, .ref a_o_paceAt, .ref a_o_turnsAt, .ref a_o_slowAt, .ref a_o_fuelAt, .ref a_o_ringAt, .int o_level, .int o_noRings, .int o_noTones, .int o_noFuel, .int o_pieces, .ref a_o_pieceParts, .int o_drags, .ref a_o_dragCell, .ref a_o_dragBy, .ref a_o_sums, .long o_all, .int o_noPieces, .int o_noDrags, .ref a_o_shares, .ref a_o_keptFar, .ref a_o_image, .int o_kept, .ref a_o_lanes, .ref a_o_sizes, .ref a_o_items, .ref a_o_movedItems])), (a_o_tape, .inl (cyI, 60, .inl o_tape))]
def f_X7_here_B38 (o_taped : Int32) (o_at : Int32) (o_tape : Nat → Int32) : Option (Int32 × Int32) :=
  if o_taped ≤ o_at then
    some (0, o_at)
  else
    chk (¬ (o_at < 0 ∨ 60 ≤ o_at.toNatClampNeg)) <|
    some (o_tape o_at.toNatClampNeg, o_at)
def f_X7_here_L0b (k0 : Int32 → Int32 → (Nat → Int32) → Option (Int32 × Int32)) (o_taped : Int32) (o_at : Int32) (o_tape : Nat → Int32) : Option (Int32 × Int32) :=
  if o_taped ≤ o_at then
    f_X7_here_B38 o_taped o_at o_tape
  else
    chk (¬ (o_at < 0 ∨ 60 ≤ o_at.toNatClampNeg)) <|
    if (o_tape o_at.toNatClampNeg) = 32 then
      nm (o_at + 1) fun x_1 =>
      k0 o_taped x_1 o_tape
    else
      f_X7_here_B38 o_taped o_at o_tape
def f_X7_here_L0 : Nat → Int32 → Int32 → (Nat → Int32) → Option (Int32 × Int32)
  | 0 => fun _ _ _ => none
  | n + 1 => f_X7_here_L0b (f_X7_here_L0 n)
def f_X7_here (o_taped : Int32) (o_at : Int32) (o_tape : Nat → Int32) : Option (Int32 × Int32) :=
  f_X7_here_L0 FU o_taped o_at o_tape
abbrev rm_X7_here : Room := { frames := 0, cells := 0, slots := 0, locals := 0 }
set_option maxRecDepth 100000 in
set_option maxHeartbeats 4000000 in
theorem c_X7_here (l : Launch) (dC : Nat → ClassId) (dI : Nat → Nat → Nat) (cyI cyJ cyO : ClassId) (sz : Nat) (h_o a_o_sets a_o_ringFar a_o_ringTone a_o_currents a_o_warmths a_o_depths a_o_tape a_o_readFar a_o_readTone a_o_readSea a_o_code a_o_cellAt a_o_courseAt a_o_paceAt a_o_turnsAt a_o_slowAt a_o_fuelAt a_o_ringAt a_o_pieceParts a_o_dragCell a_o_dragBy a_o_sums a_o_shares a_o_keptFar a_o_image a_o_lanes a_o_sizes a_o_items a_o_movedItems : Nat) (o_taped : Int32) (o_at : Int32) (o_wrong : Int32) (o_level : Int32) (o_noRings : Int32) (o_noTones : Int32) (o_noFuel : Int32) (o_pieces : Int32) (o_drags : Int32) (o_all : Int64) (o_noPieces : Int32) (o_noDrags : Int32) (o_kept : Int32) (o_tape : Nat → Int32) (post : (Int32 × Int32) → Prop) (hf : okP (f_X7_here o_taped o_at o_tape) post) : Ci l (dC, dI) (tyL cyI cyJ cyO) yX7_here wsX7_here rm_X7_here [.ref h_o] sz (W_X7_here cyI cyJ cyO h_o a_o_sets a_o_ringFar a_o_ringTone a_o_currents a_o_warmths a_o_depths a_o_tape a_o_readFar a_o_readTone a_o_readSea a_o_code a_o_cellAt a_o_courseAt a_o_paceAt a_o_turnsAt a_o_slowAt a_o_fuelAt a_o_ringAt a_o_pieceParts a_o_dragCell a_o_dragBy a_o_sums a_o_shares a_o_keptFar a_o_image a_o_lanes a_o_sizes a_o_items a_o_movedItems o_taped o_at o_wrong o_level o_noRings o_noTones o_noFuel o_pieces o_drags o_all o_noPieces o_noDrags o_kept o_tape) zN (fun r u => post (r, u)) (fun u => (W_X7_here cyI cyJ cyO h_o a_o_sets a_o_ringFar a_o_ringTone a_o_currents a_o_warmths a_o_depths a_o_tape a_o_readFar a_o_readTone a_o_readSea a_o_code a_o_cellAt a_o_courseAt a_o_paceAt a_o_turnsAt a_o_slowAt a_o_fuelAt a_o_ringAt a_o_pieceParts a_o_dragCell a_o_dragBy a_o_sums a_o_shares a_o_keptFar a_o_image a_o_lanes a_o_sizes a_o_items a_o_movedItems o_taped u o_wrong o_level o_noRings o_noTones o_noFuel o_pieces o_drags o_all o_noPieces o_noDrags o_kept o_tape)) := by
  refine Met.ofW (cc := cX7_here) (maxL := 1) (ret := (some .int)) (by decide) rfl ?_
  intro p e s m args below meth c s₁ B hml hv
  obtain ⟨rfl, hsz, hP, hK, hD0, hZ⟩ := hv
  have hx := B.exec
  have hb := B.bytes
  have hr := B.returns
  have hts := atoms_spec (ws := wsX7_here) B.pre
  have hown : s.vm.findClass RX7 = some m.cls := findClass_of_methodNamed B.named
  have hlocks := B.notSynchronized
  subst hsz
  have hD := hD0.self (sz := s.heap.size)
  generalize hAe : va_A (W_X7_here cyI cyJ cyO h_o a_o_sets a_o_ringFar a_o_ringTone a_o_currents a_o_warmths a_o_depths a_o_tape a_o_readFar a_o_readTone a_o_readSea a_o_code a_o_cellAt a_o_courseAt a_o_paceAt a_o_turnsAt a_o_slowAt a_o_fuelAt a_o_ringAt a_o_pieceParts a_o_dragCell a_o_dragBy a_o_sums a_o_shares a_o_keptFar a_o_image a_o_lanes a_o_sizes a_o_items a_o_movedItems o_taped o_at o_wrong o_level o_noRings o_noTones o_noFuel o_pieces o_drags o_all o_noPieces o_noDrags o_kept o_tape) s.heap.size = A at hD hZ ⊢
  have hA : ∀ q : Nat, s.heap.size ≤ q → A q := fun q h => by rw [← hAe]; exact Or.inr h
  clear hAe hD0
  have hS : va_S A s.heap s.heap [] := va_S.rf
  have hl := lv_entry ([.ref h_o]) (n := 1) (Nat.le_of_ble_eq_true rfl)
  rw [lg_entry_eq]
  generalize (lg_sl ([.ref h_o]) ++ List.replicate (1 - (lg_sl ([.ref h_o])).length) Slot.unset).toArray = ls at hl ⊢
  have hl : lv_has ls 1 [(0, .ref h_o)] := hl
  refine kW (fun Q hQ => ?_)
  have hq0 := hts _ (List.mem_cons_of_mem _ q_714)
  have hi7 : ∀ w ∈ u_ws RX7 TX7 42, w ∈ wsX7_here := fun w h => List.mem_cons_of_mem _ (inX7 w h)
  have hq2 := hts _ (List.mem_cons_of_mem _ q_713)
  have hq3 := hts _ (List.mem_cons_of_mem _ q_712)
  have hw := hf
  have w38 : ∀ (o_at : Int32) (H : Heap) (locs : List Loc), va_P (dC, dI) vwCl (W_X7_here cyI cyJ cyO h_o a_o_sets a_o_ringFar a_o_ringTone a_o_currents a_o_warmths a_o_depths a_o_tape a_o_readFar a_o_readTone a_o_readSea a_o_code a_o_cellAt a_o_courseAt a_o_paceAt a_o_turnsAt a_o_slowAt a_o_fuelAt a_o_ringAt a_o_pieceParts a_o_dragCell a_o_dragBy a_o_sums a_o_shares a_o_keptFar a_o_image a_o_lanes a_o_sizes a_o_items a_o_movedItems o_taped o_at o_wrong o_level o_noRings o_noTones o_noFuel o_pieces o_drags o_all o_noPieces o_noDrags o_kept o_tape) H → va_D A (W_X7_here cyI cyJ cyO h_o a_o_sets a_o_ringFar a_o_ringTone a_o_currents a_o_warmths a_o_depths a_o_tape a_o_readFar a_o_readTone a_o_readSea a_o_code a_o_cellAt a_o_courseAt a_o_paceAt a_o_turnsAt a_o_slowAt a_o_fuelAt a_o_ringAt a_o_pieceParts a_o_dragCell a_o_dragBy a_o_sums a_o_shares a_o_keptFar a_o_image a_o_lanes a_o_sizes a_o_items a_o_movedItems o_taped o_at o_wrong o_level o_noRings o_noTones o_noFuel o_pieces o_drags o_all o_noPieces o_noDrags o_kept o_tape) → va_S A s.heap H locs → ∀ (ls : Array Slot), lv_has ls 1 [(0, .ref h_o)] → okP (f_X7_here_B38 o_taped o_at o_tape) post → W p l e (headSpec wsX7_here rm_X7_here).room s m ([.ref h_o] : List Value).toArray below meth c H locs 0 0 Q (F0 m 38 ls []) := by
    intro o_at H locs hP hD hS ls hl hw
    unfold f_X7_here_B38 at hw
    refine lv_aload_n hx hb dX7_here_38 rfl (lv_at hl 0 rfl) ?_
    refine va_get (D := (dC, dI)) (ci := 7) (v := .int o_at) (C := RX7) (T := TX7) (N := 42) hx hb hts hi7 hown hK hP 0 rfl rfl 8 (by decide) hq0 (fun _ h9 => h9) rfl dX7_here_39 ?_
    refine lv_aload_n hx hb dX7_here_42 rfl (lv_at hl 0 rfl) ?_
    refine va_get (D := (dC, dI)) (ci := 7) (v := .int o_taped) (C := RX7) (T := TX7) (N := 42) hx hb hts hi7 hown hK hP 0 rfl rfl 7 (by decide) hq2 (fun _ h9 => h9) rfl dX7_here_43 ?_
    refine lv_icmp_ge (tgt := 61) hx hb dX7_here_46 (by decide) (fun c_1 => ?_) (fun c_1 => ?_)
    · replace hw := okT hw c_1
      clear c_1
      refine lv_iconst (v := 0) hx hb dX7_here_61 (by decide) ?_
      rw [hQ]
      exact W.iret (v := 0) hx hb hr (fun t ht hW => ⟨⟨0, o_at, rfl, okS hw, by rw [ht]; exact hP, va_K.moved hW.alike hK, hD⟩, hS.F ht⟩) hS.2.2 dX7_here_62
    · replace hw := okF hw c_1
      clear c_1
      refine lv_aload_n hx hb dX7_here_49 rfl (lv_at hl 0 rfl) ?_
      refine va_get (D := (dC, dI)) (ci := 7) (v := .ref a_o_tape) (C := RX7) (T := TX7) (N := 42) hx hb hts hi7 hown hK hP 0 rfl rfl 6 (by decide) hq3 (fun _ h9 => h9) rfl dX7_here_50 ?_
      refine lv_aload_n hx hb dX7_here_53 rfl (lv_at hl 0 rfl) ?_
      refine va_get (D := (dC, dI)) (ci := 7) (v := .int o_at) (C := RX7) (T := TX7) (N := 42) hx hb hts hi7 hown hK hP 0 rfl rfl 8 (by decide) hq0 (fun _ h9 => h9) rfl dX7_here_54 ?_
      obtain ⟨h_2, hw⟩ := okC hw
      refine va_iald (i := o_at) hx hb hK hP 1 0 rfl rfl h_2 dX7_here_57 ?_
      refine lv_goto (tgt := 62) hx hb dX7_here_58 (by decide) ?_
      rw [hQ]
      exact W.iret (v := o_tape o_at.toNatClampNeg) hx hb hr (fun t ht hW => ⟨⟨o_tape o_at.toNatClampNeg, o_at, rfl, okS hw, by rw [ht]; exact hP, va_K.moved hW.alike hK, hD⟩, hS.F ht⟩) hS.2.2 dX7_here_62
  have w0 : ∀ (n : Nat), ∀ (o_at : Int32) (H : Heap) (locs : List Loc), va_P (dC, dI) vwCl (W_X7_here cyI cyJ cyO h_o a_o_sets a_o_ringFar a_o_ringTone a_o_currents a_o_warmths a_o_depths a_o_tape a_o_readFar a_o_readTone a_o_readSea a_o_code a_o_cellAt a_o_courseAt a_o_paceAt a_o_turnsAt a_o_slowAt a_o_fuelAt a_o_ringAt a_o_pieceParts a_o_dragCell a_o_dragBy a_o_sums a_o_shares a_o_keptFar a_o_image a_o_lanes a_o_sizes a_o_items a_o_movedItems o_taped o_at o_wrong o_level o_noRings o_noTones o_noFuel o_pieces o_drags o_all o_noPieces o_noDrags o_kept o_tape) H → va_D A (W_X7_here cyI cyJ cyO h_o a_o_sets a_o_ringFar a_o_ringTone a_o_currents a_o_warmths a_o_depths a_o_tape a_o_readFar a_o_readTone a_o_readSea a_o_code a_o_cellAt a_o_courseAt a_o_paceAt a_o_turnsAt a_o_slowAt a_o_fuelAt a_o_ringAt a_o_pieceParts a_o_dragCell a_o_dragBy a_o_sums a_o_shares a_o_keptFar a_o_image a_o_lanes a_o_sizes a_o_items a_o_movedItems o_taped o_at o_wrong o_level o_noRings o_noTones o_noFuel o_pieces o_drags o_all o_noPieces o_noDrags o_kept o_tape) → va_S A s.heap H locs → ∀ (ls : Array Slot), lv_has ls 1 [(0, .ref h_o)] → okP (f_X7_here_L0 n o_taped o_at o_tape) post → W p l e (headSpec wsX7_here rm_X7_here).room s m ([.ref h_o] : List Value).toArray below meth c H locs 0 0 Q (F0 m 0 ls []) := by
    intro n
    induction n with
    | zero =>
      intro o_at H locs hP hD hS ls hl hw
      exact (ok0 hw).elim
    | succ n0 ih0 =>
      intro o_at H locs hP hD hS ls hl hw
      replace hw : okP (f_X7_here_L0b (f_X7_here_L0 n0) o_taped o_at o_tape) post := hw
      unfold f_X7_here_L0b at hw
      refine lv_aload_n hx hb dX7_here_0 rfl (lv_at hl 0 rfl) ?_
      refine va_get (D := (dC, dI)) (ci := 7) (v := .int o_at) (C := RX7) (T := TX7) (N := 42) hx hb hts hi7 hown hK hP 0 rfl rfl 8 (by decide) hq0 (fun _ h9 => h9) rfl dX7_here_1 ?_
      refine lv_aload_n hx hb dX7_here_4 rfl (lv_at hl 0 rfl) ?_
      refine va_get (D := (dC, dI)) (ci := 7) (v := .int o_taped) (C := RX7) (T := TX7) (N := 42) hx hb hts hi7 hown hK hP 0 rfl rfl 7 (by decide) hq2 (fun _ h9 => h9) rfl dX7_here_5 ?_
      refine lv_icmp_ge (tgt := 38) hx hb dX7_here_8 (by decide) (fun c_3 => ?_) (fun c_3 => ?_)
      · replace hw := okT hw c_3
        clear c_3
        exact w38 o_at _ _ hP hD hS _ (lv_sub hl [0] rfl) hw
      · replace hw := okF hw c_3
        clear c_3
        refine lv_aload_n hx hb dX7_here_11 rfl (lv_at hl 0 rfl) ?_
        refine va_get (D := (dC, dI)) (ci := 7) (v := .ref a_o_tape) (C := RX7) (T := TX7) (N := 42) hx hb hts hi7 hown hK hP 0 rfl rfl 6 (by decide) hq3 (fun _ h9 => h9) rfl dX7_here_12 ?_
        refine lv_aload_n hx hb dX7_here_15 rfl (lv_at hl 0 rfl) ?_
        refine va_get (D := (dC, dI)) (ci := 7) (v := .int o_at) (C := RX7) (T := TX7) (N := 42) hx hb hts hi7 hown hK hP 0 rfl rfl 8 (by decide) hq0 (fun _ h9 => h9) rfl dX7_here_16 ?_
        obtain ⟨h_4, hw⟩ := okC hw
        refine va_iald (i := o_at) hx hb hK hP 1 0 rfl rfl h_4 dX7_here_19 ?_
        refine lv_bipush (v := 32) hx hb dX7_here_20 (by decide) ?_
        refine lv_icmp_ne (tgt := 38) hx hb dX7_here_22 (by decide) (fun c_5 => ?_) (fun c_5 => ?_)
        · replace hw := okF hw c_5
          clear c_5
          exact w38 o_at _ _ hP hD hS _ (lv_sub hl [0] rfl) hw
        · replace hw := okT hw c_5
          clear c_5
          refine lv_aload_n hx hb dX7_here_25 rfl (lv_at hl 0 rfl) ?_
          refine lv_dup hx hb dX7_here_26 rfl ?_
          refine va_get (D := (dC, dI)) (ci := 7) (v := .int o_at) (C := RX7) (T := TX7) (N := 42) hx hb hts hi7 hown hK hP 0 rfl rfl 8 (by decide) hq0 (fun _ h9 => h9) rfl dX7_here_27 ?_
          refine lv_iconst (v := 1) hx hb dX7_here_30 (by decide) ?_
          refine lv_iadd hx hb dX7_here_31 ?_
          refine lv_topi (fun x_6 ex_6 => ?_)
          replace hw := okN ex_6 hw
          clear ex_6
          refine va_put (D := (dC, dI)) (ci := 7) (v := .int x_6) (ty := .int) (C := RX7) (T := TX7) (N := 42) hx hb hts hi7 tyX7 tyX7_ok nmX7 hown hK hP hD hS 0 rfl rfl 8 (by decide) hq0 (fun _ h9 => h9) rfl (by decide +kernel) rfl rfl (Nat.le_of_ble_eq_true rfl) dX7_here_32 (fun H locs hP hD hS => ?_)
          have hP : va_P (dC, dI) vwCl (W_X7_here cyI cyJ cyO h_o a_o_sets a_o_ringFar a_o_ringTone a_o_currents a_o_warmths a_o_depths a_o_tape a_o_readFar a_o_readTone a_o_readSea a_o_code a_o_cellAt a_o_courseAt a_o_paceAt a_o_turnsAt a_o_slowAt a_o_fuelAt a_o_ringAt a_o_pieceParts a_o_dragCell a_o_dragBy a_o_sums a_o_shares a_o_keptFar a_o_image a_o_lanes a_o_sizes a_o_items a_o_movedItems o_taped x_6 o_wrong o_level o_noRings o_noTones o_noFuel o_pieces o_drags o_all o_noPieces o_noDrags o_kept o_tape) H := hP
          have hD : va_D A (W_X7_here cyI cyJ cyO h_o a_o_sets a_o_ringFar a_o_ringTone a_o_currents a_o_warmths a_o_depths a_o_tape a_o_readFar a_o_readTone a_o_readSea a_o_code a_o_cellAt a_o_courseAt a_o_paceAt a_o_turnsAt a_o_slowAt a_o_fuelAt a_o_ringAt a_o_pieceParts a_o_dragCell a_o_dragBy a_o_sums a_o_shares a_o_keptFar a_o_image a_o_lanes a_o_sizes a_o_items a_o_movedItems o_taped x_6 o_wrong o_level o_noRings o_noTones o_noFuel o_pieces o_drags o_all o_noPieces o_noDrags o_kept o_tape) := hD
          refine lv_goto (tgt := 0) hx hb dX7_here_35 (by decide) ?_
          exact ih0 x_6 _ _ hP hD hS _ (lv_sub hl [0] rfl) hw
  unfold f_X7_here at hw
  have hP : va_P (dC, dI) vwCl (W_X7_here cyI cyJ cyO h_o a_o_sets a_o_ringFar a_o_ringTone a_o_currents a_o_warmths a_o_depths a_o_tape a_o_readFar a_o_readTone a_o_readSea a_o_code a_o_cellAt a_o_courseAt a_o_paceAt a_o_turnsAt a_o_slowAt a_o_fuelAt a_o_ringAt a_o_pieceParts a_o_dragCell a_o_dragBy a_o_sums a_o_shares a_o_keptFar a_o_image a_o_lanes a_o_sizes a_o_items a_o_movedItems o_taped o_at o_wrong o_level o_noRings o_noTones o_noFuel o_pieces o_drags o_all o_noPieces o_noDrags o_kept o_tape) s.heap := hP
  obtain ⟨H, hH⟩ : ∃ H, H = s.heap := ⟨_, rfl⟩
  obtain ⟨locs, hlo⟩ : ∃ x : List Loc, x = [] := ⟨_, rfl⟩
  have hP : va_P (dC, dI) vwCl (W_X7_here cyI cyJ cyO h_o a_o_sets a_o_ringFar a_o_ringTone a_o_currents a_o_warmths a_o_depths a_o_tape a_o_readFar a_o_readTone a_o_readSea a_o_code a_o_cellAt a_o_courseAt a_o_paceAt a_o_turnsAt a_o_slowAt a_o_fuelAt a_o_ringAt a_o_pieceParts a_o_dragCell a_o_dragBy a_o_sums a_o_shares a_o_keptFar a_o_image a_o_lanes a_o_sizes a_o_items a_o_movedItems o_taped o_at o_wrong o_level o_noRings o_noTones o_noFuel o_pieces o_drags o_all o_noPieces o_noDrags o_kept o_tape) H := by rw [hH]; exact hP
  have hS : va_S A s.heap H locs := by rw [hH, hlo]; exact hS
  refine kH hH hlo ?_
  clear hH hlo
  exact w0 FU o_at _ _ hP hD hS _ (lv_sub hl [0] rfl) hw
/-! ===== X7_digit ===== -/
theorem dX7_digit_0 : decode cX7_digit 0 = .ok (.aload_n 0, 1) := by decide +kernel
theorem dX7_digit_1 : decode cX7_digit 1 = .ok (.aload_n 0, 1) := by decide +kernel
theorem dX7_digit_2 : decode cX7_digit 2 = .ok (.getfield 145, 3) := by decide +kernel
theorem dX7_digit_5 : decode cX7_digit 5 = .ok (.ifCond .ne 24, 3) := by decide +kernel
theorem dX7_digit_8 : decode cX7_digit 8 = .ok (.aload_n 0, 1) := by decide +kernel
theorem dX7_digit_9 : decode cX7_digit 9 = .ok (.invokevirtual 149, 3) := by decide +kernel
theorem dX7_digit_12 : decode cX7_digit 12 = .ok (.i2l, 1) := by decide +kernel
theorem dX7_digit_13 : decode cX7_digit 13 = .ok (.bipush 48, 2) := by decide +kernel
theorem dX7_digit_15 : decode cX7_digit 15 = .ok (.iload_n 1, 1) := by decide +kernel
theorem dX7_digit_16 : decode cX7_digit 16 = .ok (.iadd, 1) := by decide +kernel
theorem dX7_digit_17 : decode cX7_digit 17 = .ok (.i2l, 1) := by decide +kernel
theorem dX7_digit_18 : decode cX7_digit 18 = .ok (.bipush 48, 2) := by decide +kernel
theorem dX7_digit_20 : decode cX7_digit 20 = .ok (.iload_n 2, 1) := by decide +kernel
theorem dX7_digit_21 : decode cX7_digit 21 = .ok (.iadd, 1) := by decide +kernel
theorem dX7_digit_22 : decode cX7_digit 22 = .ok (.i2l, 1) := by decide +kernel
theorem dX7_digit_23 : decode cX7_digit 23 = .ok (.invokestatic 100, 3) := by decide +kernel
theorem dX7_digit_26 : decode cX7_digit 26 = .ok (.ifCond .ne 7, 3) := by decide +kernel
theorem dX7_digit_29 : decode cX7_digit 29 = .ok (.iconst 1, 1) := by decide +kernel
theorem dX7_digit_30 : decode cX7_digit 30 = .ok (.goto 4, 3) := by decide +kernel
theorem dX7_digit_33 : decode cX7_digit 33 = .ok (.iconst 0, 1) := by decide +kernel
theorem dX7_digit_34 : decode cX7_digit 34 = .ok (.putfield 145, 3) := by decide +kernel
theorem dX7_digit_37 : decode cX7_digit 37 = .ok (.aload_n 0, 1) := by decide +kernel
theorem dX7_digit_38 : decode cX7_digit 38 = .ok (.getfield 145, 3) := by decide +kernel
theorem dX7_digit_41 : decode cX7_digit 41 = .ok (.ifCond .eq 7, 3) := by decide +kernel
theorem dX7_digit_44 : decode cX7_digit 44 = .ok (.iconst 0, 1) := by decide +kernel
theorem dX7_digit_45 : decode cX7_digit 45 = .ok (.goto 10, 3) := by decide +kernel
theorem dX7_digit_48 : decode cX7_digit 48 = .ok (.aload_n 0, 1) := by decide +kernel
theorem dX7_digit_49 : decode cX7_digit 49 = .ok (.invokevirtual 149, 3) := by decide +kernel
theorem dX7_digit_52 : decode cX7_digit 52 = .ok (.bipush 48, 2) := by decide +kernel
theorem dX7_digit_54 : decode cX7_digit 54 = .ok (.isub, 1) := by decide +kernel
theorem dX7_digit_55 : decode cX7_digit 55 = .ok (.istore_n 3, 1) := by decide +kernel
theorem dX7_digit_56 : decode cX7_digit 56 = .ok (.aload_n 0, 1) := by decide +kernel
theorem dX7_digit_57 : decode cX7_digit 57 = .ok (.dup, 1) := by decide +kernel
theorem dX7_digit_58 : decode cX7_digit 58 = .ok (.getfield 142, 3) := by decide +kernel
theorem dX7_digit_61 : decode cX7_digit 61 = .ok (.aload_n 0, 1) := by decide +kernel
theorem dX7_digit_62 : decode cX7_digit 62 = .ok (.getfield 145, 3) := by decide +kernel
theorem dX7_digit_65 : decode cX7_digit 65 = .ok (.ifCond .eq 7, 3) := by decide +kernel
theorem dX7_digit_68 : decode cX7_digit 68 = .ok (.iconst 0, 1) := by decide +kernel
theorem dX7_digit_69 : decode cX7_digit 69 = .ok (.goto 4, 3) := by decide +kernel
theorem dX7_digit_72 : decode cX7_digit 72 = .ok (.iconst 1, 1) := by decide +kernel
theorem dX7_digit_73 : decode cX7_digit 73 = .ok (.iadd, 1) := by decide +kernel
theorem dX7_digit_74 : decode cX7_digit 74 = .ok (.putfield 142, 3) := by decide +kernel
theorem dX7_digit_77 : decode cX7_digit 77 = .ok (.iload_n 3, 1) := by decide +kernel
theorem dX7_digit_78 : decode cX7_digit 78 = .ok (.ireturn, 1) := by decide +kernel
abbrev W_X7_digit (cyI cyJ cyO : ClassId) (h_o a_o_sets a_o_ringFar a_o_ringTone a_o_currents a_o_warmths a_o_depths a_o_tape a_o_readFar a_o_readTone a_o_readSea a_o_code a_o_cellAt a_o_courseAt a_o_paceAt a_o_turnsAt a_o_slowAt a_o_fuelAt a_o_ringAt a_o_pieceParts a_o_dragCell a_o_dragBy a_o_sums a_o_shares a_o_keptFar a_o_image a_o_lanes a_o_sizes a_o_items a_o_movedItems : Nat) (o_taped : Int32) (o_at : Int32) (o_wrong : Int32) (o_level : Int32) (o_noRings : Int32) (o_noTones : Int32) (o_noFuel : Int32) (o_pieces : Int32) (o_drags : Int32) (o_all : Int64) (o_noPieces : Int32) (o_noDrags : Int32) (o_kept : Int32) (o_tape : Nat → Int32) : va_W := [(h_o, .inr (7, [.ref a_o_sets, .ref a_o_ringFar, .ref a_o_ringTone, .ref a_o_currents, .ref a_o_warmths, .ref a_o_depths, .ref a_o_tape, .int o_taped, .int o_at, .int o_wrong, .ref a_o_readFar, .ref a_o_readTone, .ref a_o_readSea, .ref a_o_code, .ref a_o_cellAt, .ref a_o_courseAt, .ref a_o_paceAt, .ref a_o_turnsAt, .ref a_o_slowAt, .ref a_o_fuelAt, .ref a_o_ringAt, .int o_level, .int o_noRings, .int o_noTones, .int o_noFuel, .int o_pieces, .ref a_o_pieceParts, .int o_drags, .ref a_o_dragCell, .ref a_o_dragBy, .ref a_o_sums, .long o_all, .int o_noPieces, .int o_noDrags, .ref a_o_shares, .ref a_o_keptFar, .ref a_o_image, .int o_kept, .ref a_o_lanes, .ref a_o_sizes, .ref a_o_items, .ref a_o_movedItems])), (a_o_tape, .inl (cyI, 60, .inl o_tape))]
def f_X7_digit_B73 (v3 : Int32) (y0 : Int32) (y1 : Int32) (o_taped : Int32) (o_at : Int32) (o_wrong : Int32) (o_tape : Nat → Int32) : Option (Int32 × Int32 × Int32) :=
  nm (y1 + y0) fun x_1 =>
  some (v3, x_1, o_wrong)
def f_X7_digit_B55 (y0 : Int32) (o_taped : Int32) (o_at : Int32) (o_wrong : Int32) (o_tape : Nat → Int32) : Option (Int32 × Int32 × Int32) :=
  if o_wrong = 0 then
    f_X7_digit_B73 y0 1 o_at o_taped o_at o_wrong o_tape
  else
    f_X7_digit_B73 y0 0 o_at o_taped o_at o_wrong o_tape
def f_X7_digit_B34 (y0 : Int32) (o_taped : Int32) (o_at : Int32) (o_wrong : Int32) (o_tape : Nat → Int32) : Option (Int32 × Int32 × Int32) :=
  chk (y0 = 0 ∨ y0 = 1) <|
  if y0 = 0 then
    bd2 (f_X7_here o_taped o_at o_tape) fun r_2 w_3 =>
    f_X7_digit_B55 (r_2 - 48) o_taped w_3 y0 o_tape
  else
    f_X7_digit_B55 0 o_taped o_at y0 o_tape
def f_X7_digit_B29 (o_taped : Int32) (o_at : Int32) (o_wrong : Int32) (o_tape : Nat → Int32) : Option (Int32 × Int32 × Int32) :=
  f_X7_digit_B34 1 o_taped o_at o_wrong o_tape
def f_X7_digit (x1 : Int32) (x2 : Int32) (o_taped : Int32) (o_at : Int32) (o_wrong : Int32) (o_tape : Nat → Int32) : Option (Int32 × Int32 × Int32) :=
  if o_wrong = 0 then
    bd2 (f_X7_here o_taped o_at o_tape) fun r_4 w_5 =>
    bd1 (f_X7_in r_4.toInt64 ((48 + x1).toInt64) ((48 + x2).toInt64)) fun r_6 =>
    if r_6 = 0 then
      f_X7_digit_B29 o_taped w_5 o_wrong o_tape
    else
      f_X7_digit_B34 0 o_taped w_5 o_wrong o_tape
  else
    f_X7_digit_B29 o_taped o_at o_wrong o_tape
abbrev rm_X7_digit : Room := { frames := 1, cells := 0, slots := 0, locals := 25 }
set_option maxRecDepth 100000 in
set_option maxHeartbeats 4000000 in
theorem c_X7_digit (l : Launch) (dC : Nat → ClassId) (dI : Nat → Nat → Nat) (cyI cyJ cyO : ClassId) (sz : Nat) (h_o a_o_sets a_o_ringFar a_o_ringTone a_o_currents a_o_warmths a_o_depths a_o_tape a_o_readFar a_o_readTone a_o_readSea a_o_code a_o_cellAt a_o_courseAt a_o_paceAt a_o_turnsAt a_o_slowAt a_o_fuelAt a_o_ringAt a_o_pieceParts a_o_dragCell a_o_dragBy a_o_sums a_o_shares a_o_keptFar a_o_image a_o_lanes a_o_sizes a_o_items a_o_movedItems : Nat) (o_taped : Int32) (o_at : Int32) (o_wrong : Int32) (o_level : Int32) (o_noRings : Int32) (o_noTones : Int32) (o_noFuel : Int32) (o_pieces : Int32) (o_drags : Int32) (o_all : Int64) (o_noPieces : Int32) (o_noDrags : Int32) (o_kept : Int32) (o_tape : Nat → Int32) (x1 : Int32) (x2 : Int32) (post : (Int32 × Int32 × Int32) → Prop) (hf : okP (f_X7_digit x1 x2 o_taped o_at o_wrong o_tape) post) : Ci l (dC, dI) (tyL cyI cyJ cyO) yX7_digit wsX7_digit rm_X7_digit [.ref h_o, .int x1, .int x2] sz (W_X7_digit cyI cyJ cyO h_o a_o_sets a_o_ringFar a_o_ringTone a_o_currents a_o_warmths a_o_depths a_o_tape a_o_readFar a_o_readTone a_o_readSea a_o_code a_o_cellAt a_o_courseAt a_o_paceAt a_o_turnsAt a_o_slowAt a_o_fuelAt a_o_ringAt a_o_pieceParts a_o_dragCell a_o_dragBy a_o_sums a_o_shares a_o_keptFar a_o_image a_o_lanes a_o_sizes a_o_items a_o_movedItems o_taped o_at o_wrong o_level o_noRings o_noTones o_noFuel o_pieces o_drags o_all o_noPieces o_noDrags o_kept o_tape) zN (fun r u => post (r, u)) (fun u => (W_X7_digit cyI cyJ cyO h_o a_o_sets a_o_ringFar a_o_ringTone a_o_currents a_o_warmths a_o_depths a_o_tape a_o_readFar a_o_readTone a_o_readSea a_o_code a_o_cellAt a_o_courseAt a_o_paceAt a_o_turnsAt a_o_slowAt a_o_fuelAt a_o_ringAt a_o_pieceParts a_o_dragCell a_o_dragBy a_o_sums a_o_shares a_o_keptFar a_o_image a_o_lanes a_o_sizes a_o_items a_o_movedItems o_taped u.1 u.2 o_level o_noRings o_noTones o_noFuel o_pieces o_drags o_all o_noPieces o_noDrags o_kept o_tape)) := by
  refine Met.ofW (cc := cX7_digit) (maxL := 4) (ret := (some .int)) (by decide) rfl ?_
  intro p e s m args below meth c s₁ B hml hv
  obtain ⟨rfl, hsz, hP, hK, hD0, hZ⟩ := hv
  have hx := B.exec
  have hb := B.bytes
  have hr := B.returns
  have hts := atoms_spec (ws := wsX7_digit) B.pre
  have hown : s.vm.findClass RX7 = some m.cls := findClass_of_methodNamed B.named
  have hlocks := B.notSynchronized
  subst hsz
  have hD := hD0.self (sz := s.heap.size)
  generalize hAe : va_A (W_X7_digit cyI cyJ cyO h_o a_o_sets a_o_ringFar a_o_ringTone a_o_currents a_o_warmths a_o_depths a_o_tape a_o_readFar a_o_readTone a_o_readSea a_o_code a_o_cellAt a_o_courseAt a_o_paceAt a_o_turnsAt a_o_slowAt a_o_fuelAt a_o_ringAt a_o_pieceParts a_o_dragCell a_o_dragBy a_o_sums a_o_shares a_o_keptFar a_o_image a_o_lanes a_o_sizes a_o_items a_o_movedItems o_taped o_at o_wrong o_level o_noRings o_noTones o_noFuel o_pieces o_drags o_all o_noPieces o_noDrags o_kept o_tape) s.heap.size = A at hD hZ ⊢
  have hA : ∀ q : Nat, s.heap.size ≤ q → A q := fun q h => by rw [← hAe]; exact Or.inr h
  clear hAe hD0
  have hS : va_S A s.heap s.heap [] := va_S.rf
  have hl := lv_entry ([.ref h_o, .int x1, .int x2]) (n := 4) (Nat.le_of_ble_eq_true rfl)
  rw [lg_entry_eq]
  generalize (lg_sl ([.ref h_o, .int x1, .int x2]) ++ List.replicate (4 - (lg_sl ([.ref h_o, .int x1, .int x2])).length) Slot.unset).toArray = ls at hl ⊢
  have hl : lv_has ls 4 [(0, .ref h_o), (1, .int x1), (2, .int x2)] := hl
  refine kW (fun Q hQ => ?_)
  have hq0 := hts _ (List.mem_cons_of_mem _ q_714)
  have hi7 : ∀ w ∈ u_ws RX7 TX7 42, w ∈ wsX7_digit := fun w h => List.mem_cons_of_mem _ (inX7 w h)
  have hq2 := hts _ (List.mem_cons_of_mem _ q_715)
  have hw := hf
  have w73 : ∀ (v3 : Int32) (y0 : Int32) (y1 : Int32) (o_at : Int32) (o_wrong : Int32) (H : Heap) (locs : List Loc), va_P (dC, dI) vwCl (W_X7_digit cyI cyJ cyO h_o a_o_sets a_o_ringFar a_o_ringTone a_o_currents a_o_warmths a_o_depths a_o_tape a_o_readFar a_o_readTone a_o_readSea a_o_code a_o_cellAt a_o_courseAt a_o_paceAt a_o_turnsAt a_o_slowAt a_o_fuelAt a_o_ringAt a_o_pieceParts a_o_dragCell a_o_dragBy a_o_sums a_o_shares a_o_keptFar a_o_image a_o_lanes a_o_sizes a_o_items a_o_movedItems o_taped o_at o_wrong o_level o_noRings o_noTones o_noFuel o_pieces o_drags o_all o_noPieces o_noDrags o_kept o_tape) H → va_D A (W_X7_digit cyI cyJ cyO h_o a_o_sets a_o_ringFar a_o_ringTone a_o_currents a_o_warmths a_o_depths a_o_tape a_o_readFar a_o_readTone a_o_readSea a_o_code a_o_cellAt a_o_courseAt a_o_paceAt a_o_turnsAt a_o_slowAt a_o_fuelAt a_o_ringAt a_o_pieceParts a_o_dragCell a_o_dragBy a_o_sums a_o_shares a_o_keptFar a_o_image a_o_lanes a_o_sizes a_o_items a_o_movedItems o_taped o_at o_wrong o_level o_noRings o_noTones o_noFuel o_pieces o_drags o_all o_noPieces o_noDrags o_kept o_tape) → va_S A s.heap H locs → ∀ (ls : Array Slot), lv_has ls 4 [(3, .int v3)] → okP (f_X7_digit_B73 v3 y0 y1 o_taped o_at o_wrong o_tape) post → W p l e (headSpec wsX7_digit rm_X7_digit).room s m ([.ref h_o, .int x1, .int x2] : List Value).toArray below meth c H locs 0 0 Q (F0 m 73 ls [.int y0, .int y1, .ref h_o]) := by
    intro v3 y0 y1 o_at o_wrong H locs hP hD hS ls hl hw
    unfold f_X7_digit_B73 at hw
    refine lv_iadd hx hb dX7_digit_73 ?_
    refine lv_topi (fun x_1 ex_1 => ?_)
    replace hw := okN ex_1 hw
    clear ex_1
    refine va_put (D := (dC, dI)) (ci := 7) (v := .int x_1) (ty := .int) (C := RX7) (T := TX7) (N := 42) hx hb hts hi7 tyX7 tyX7_ok nmX7 hown hK hP hD hS 0 rfl rfl 8 (by decide) hq0 (fun _ h9 => h9) rfl (by decide +kernel) rfl rfl (Nat.le_of_ble_eq_true rfl) dX7_digit_74 (fun H locs hP hD hS => ?_)
    have hP : va_P (dC, dI) vwCl (W_X7_digit cyI cyJ cyO h_o a_o_sets a_o_ringFar a_o_ringTone a_o_currents a_o_warmths a_o_depths a_o_tape a_o_readFar a_o_readTone a_o_readSea a_o_code a_o_cellAt a_o_courseAt a_o_paceAt a_o_turnsAt a_o_slowAt a_o_fuelAt a_o_ringAt a_o_pieceParts a_o_dragCell a_o_dragBy a_o_sums a_o_shares a_o_keptFar a_o_image a_o_lanes a_o_sizes a_o_items a_o_movedItems o_taped x_1 o_wrong o_level o_noRings o_noTones o_noFuel o_pieces o_drags o_all o_noPieces o_noDrags o_kept o_tape) H := hP
    have hD : va_D A (W_X7_digit cyI cyJ cyO h_o a_o_sets a_o_ringFar a_o_ringTone a_o_currents a_o_warmths a_o_depths a_o_tape a_o_readFar a_o_readTone a_o_readSea a_o_code a_o_cellAt a_o_courseAt a_o_paceAt a_o_turnsAt a_o_slowAt a_o_fuelAt a_o_ringAt a_o_pieceParts a_o_dragCell a_o_dragBy a_o_sums a_o_shares a_o_keptFar a_o_image a_o_lanes a_o_sizes a_o_items a_o_movedItems o_taped x_1 o_wrong o_level o_noRings o_noTones o_noFuel o_pieces o_drags o_all o_noPieces o_noDrags o_kept o_tape) := hD
    refine lv_iload_n hx hb dX7_digit_77 rfl (lv_at hl 0 rfl) ?_
    rw [hQ]
    exact W.iret (v := v3) hx hb hr (fun t ht hW => ⟨⟨v3, (x_1, o_wrong), rfl, okS hw, by rw [ht]; exact hP, va_K.moved hW.alike hK, hD⟩, hS.F ht⟩) hS.2.2 dX7_digit_78
  have w55 : ∀ (y0 : Int32) (o_at : Int32) (o_wrong : Int32) (H : Heap) (locs : List Loc), va_P (dC, dI) vwCl (W_X7_digit cyI cyJ cyO h_o a_o_sets a_o_ringFar a_o_ringTone a_o_currents a_o_warmths a_o_depths a_o_tape a_o_readFar a_o_readTone a_o_readSea a_o_code a_o_cellAt a_o_courseAt a_o_paceAt a_o_turnsAt a_o_slowAt a_o_fuelAt a_o_ringAt a_o_pieceParts a_o_dragCell a_o_dragBy a_o_sums a_o_shares a_o_keptFar a_o_image a_o_lanes a_o_sizes a_o_items a_o_movedItems o_taped o_at o_wrong o_level o_noRings o_noTones o_noFuel o_pieces o_drags o_all o_noPieces o_noDrags o_kept o_tape) H → va_D A (W_X7_digit cyI cyJ cyO h_o a_o_sets a_o_ringFar a_o_ringTone a_o_currents a_o_warmths a_o_depths a_o_tape a_o_readFar a_o_readTone a_o_readSea a_o_code a_o_cellAt a_o_courseAt a_o_paceAt a_o_turnsAt a_o_slowAt a_o_fuelAt a_o_ringAt a_o_pieceParts a_o_dragCell a_o_dragBy a_o_sums a_o_shares a_o_keptFar a_o_image a_o_lanes a_o_sizes a_o_items a_o_movedItems o_taped o_at o_wrong o_level o_noRings o_noTones o_noFuel o_pieces o_drags o_all o_noPieces o_noDrags o_kept o_tape) → va_S A s.heap H locs → ∀ (ls : Array Slot), lv_has ls 4 [(0, .ref h_o)] → okP (f_X7_digit_B55 y0 o_taped o_at o_wrong o_tape) post → W p l e (headSpec wsX7_digit rm_X7_digit).room s m ([.ref h_o, .int x1, .int x2] : List Value).toArray below meth c H locs 0 0 Q (F0 m 55 ls [.int y0]) := by
    intro y0 o_at o_wrong H locs hP hD hS ls hl hw
    unfold f_X7_digit_B55 at hw
    refine lv_istore_n (lv' := [(3, .int y0), (0, .ref h_o)]) hx hb dX7_digit_55 rfl hl (by decide) rfl (fun ls hl => ?_)
    refine lv_aload_n hx hb dX7_digit_56 rfl (lv_at hl 1 rfl) ?_
    refine lv_dup hx hb dX7_digit_57 rfl ?_
    refine va_get (D := (dC, dI)) (ci := 7) (v := .int o_at) (C := RX7) (T := TX7) (N := 42) hx hb hts hi7 hown hK hP 0 rfl rfl 8 (by decide) hq0 (fun _ h9 => h9) rfl dX7_digit_58 ?_
    refine lv_aload_n hx hb dX7_digit_61 rfl (lv_at hl 1 rfl) ?_
    refine va_get (D := (dC, dI)) (ci := 7) (v := .int o_wrong) (C := RX7) (T := TX7) (N := 42) hx hb hts hi7 hown hK hP 0 rfl rfl 9 (by decide) hq2 (fun _ h9 => h9) rfl dX7_digit_62 ?_
    refine lv_if_eq (tgt := 72) hx hb dX7_digit_65 (by decide) (fun c_2 => ?_) (fun c_2 => ?_)
    · replace hw := okT hw c_2
      clear c_2
      refine lv_iconst (v := 1) hx hb dX7_digit_72 (by decide) ?_
      exact w73 y0 1 o_at o_at o_wrong _ _ hP hD hS _ (lv_sub hl [0] rfl) hw
    · replace hw := okF hw c_2
      clear c_2
      refine lv_iconst (v := 0) hx hb dX7_digit_68 (by decide) ?_
      refine lv_goto (tgt := 73) hx hb dX7_digit_69 (by decide) ?_
      exact w73 y0 0 o_at o_at o_wrong _ _ hP hD hS _ (lv_sub hl [0] rfl) hw
  have w34 : ∀ (y0 : Int32) (o_at : Int32) (o_wrong : Int32) (H : Heap) (locs : List Loc), va_P (dC, dI) vwCl (W_X7_digit cyI cyJ cyO h_o a_o_sets a_o_ringFar a_o_ringTone a_o_currents a_o_warmths a_o_depths a_o_tape a_o_readFar a_o_readTone a_o_readSea a_o_code a_o_cellAt a_o_courseAt a_o_paceAt a_o_turnsAt a_o_slowAt a_o_fuelAt a_o_ringAt a_o_pieceParts a_o_dragCell a_o_dragBy a_o_sums a_o_shares a_o_keptFar a_o_image a_o_lanes a_o_sizes a_o_items a_o_movedItems o_taped o_at o_wrong o_level o_noRings o_noTones o_noFuel o_pieces o_drags o_all o_noPieces o_noDrags o_kept o_tape) H → va_D A (W_X7_digit cyI cyJ cyO h_o a_o_sets a_o_ringFar a_o_ringTone a_o_currents a_o_warmths a_o_depths a_o_tape a_o_readFar a_o_readTone a_o_readSea a_o_code a_o_cellAt a_o_courseAt a_o_paceAt a_o_turnsAt a_o_slowAt a_o_fuelAt a_o_ringAt a_o_pieceParts a_o_dragCell a_o_dragBy a_o_sums a_o_shares a_o_keptFar a_o_image a_o_lanes a_o_sizes a_o_items a_o_movedItems o_taped o_at o_wrong o_level o_noRings o_noTones o_noFuel o_pieces o_drags o_all o_noPieces o_noDrags o_kept o_tape) → va_S A s.heap H locs → ∀ (ls : Array Slot), lv_has ls 4 [(0, .ref h_o)] → okP (f_X7_digit_B34 y0 o_taped o_at o_wrong o_tape) post → W p l e (headSpec wsX7_digit rm_X7_digit).room s m ([.ref h_o, .int x1, .int x2] : List Value).toArray below meth c H locs 0 0 Q (F0 m 34 ls [.int y0, .ref h_o]) := by
    intro y0 o_at o_wrong H locs hP hD hS ls hl hw
    unfold f_X7_digit_B34 at hw
    obtain ⟨h_3, hw⟩ := okC hw
    refine va_put (D := (dC, dI)) (ci := 7) (v := .int y0) (ty := .boolean) (C := RX7) (T := TX7) (N := 42) hx hb hts hi7 tyX7 tyX7_ok nmX7 hown hK hP hD hS 0 rfl rfl 9 (by decide) hq2 (fun _ h9 => h9) rfl (by decide +kernel) (nbZ h_3) (ftZ h_3) (Nat.le_of_ble_eq_true rfl) dX7_digit_34 (fun H locs hP hD hS => ?_)
    have hP : va_P (dC, dI) vwCl (W_X7_digit cyI cyJ cyO h_o a_o_sets a_o_ringFar a_o_ringTone a_o_currents a_o_warmths a_o_depths a_o_tape a_o_readFar a_o_readTone a_o_readSea a_o_code a_o_cellAt a_o_courseAt a_o_paceAt a_o_turnsAt a_o_slowAt a_o_fuelAt a_o_ringAt a_o_pieceParts a_o_dragCell a_o_dragBy a_o_sums a_o_shares a_o_keptFar a_o_image a_o_lanes a_o_sizes a_o_items a_o_movedItems o_taped o_at y0 o_level o_noRings o_noTones o_noFuel o_pieces o_drags o_all o_noPieces o_noDrags o_kept o_tape) H := hP
    have hD : va_D A (W_X7_digit cyI cyJ cyO h_o a_o_sets a_o_ringFar a_o_ringTone a_o_currents a_o_warmths a_o_depths a_o_tape a_o_readFar a_o_readTone a_o_readSea a_o_code a_o_cellAt a_o_courseAt a_o_paceAt a_o_turnsAt a_o_slowAt a_o_fuelAt a_o_ringAt a_o_pieceParts a_o_dragCell a_o_dragBy a_o_sums a_o_shares a_o_keptFar a_o_image a_o_lanes a_o_sizes a_o_items a_o_movedItems o_taped o_at y0 o_level o_noRings o_noTones o_noFuel o_pieces o_drags o_all o_noPieces o_noDrags o_kept o_tape) := hD
    refine lv_aload_n hx hb dX7_digit_37 rfl (lv_at hl 0 rfl) ?_
    refine va_get (D := (dC, dI)) (ci := 7) (v := .int y0) (C := RX7) (T := TX7) (N := 42) hx hb hts hi7 hown hK hP 0 rfl rfl 9 (by decide) hq2 (fun _ h9 => h9) rfl dX7_digit_38 ?_
    refine lv_if_eq (tgt := 48) hx hb dX7_digit_41 (by decide) (fun c_4 => ?_) (fun c_4 => ?_)
    · replace hw := okT hw c_4
      clear c_4
      refine lv_aload_n hx hb dX7_digit_48 rfl (lv_at hl 0 rfl) ?_
      have hPc := hP.sub (ws' := (W_X7_here cyI cyJ cyO h_o a_o_sets a_o_ringFar a_o_ringTone a_o_currents a_o_warmths a_o_depths a_o_tape a_o_readFar a_o_readTone a_o_readSea a_o_code a_o_cellAt a_o_courseAt a_o_paceAt a_o_turnsAt a_o_slowAt a_o_fuelAt a_o_ringAt a_o_pieceParts a_o_dragCell a_o_dragBy a_o_sums a_o_shares a_o_keptFar a_o_image a_o_lanes a_o_sizes a_o_items a_o_movedItems o_taped o_at y0 o_level o_noRings o_noTones o_noFuel o_pieces o_drags o_all o_noPieces o_noDrags o_kept o_tape)) [0, 1] rfl
      have hDc := hD.sub (ws' := (W_X7_here cyI cyJ cyO h_o a_o_sets a_o_ringFar a_o_ringTone a_o_currents a_o_warmths a_o_depths a_o_tape a_o_readFar a_o_readTone a_o_readSea a_o_code a_o_cellAt a_o_courseAt a_o_paceAt a_o_turnsAt a_o_slowAt a_o_fuelAt a_o_ringAt a_o_pieceParts a_o_dragCell a_o_dragBy a_o_sums a_o_shares a_o_keptFar a_o_image a_o_lanes a_o_sizes a_o_items a_o_movedItems o_taped o_at y0 o_level o_noRings o_noTones o_noFuel o_pieces o_drags o_all o_noPieces o_noDrags o_kept o_tape)) [0, 1] (by decide +kernel) rfl
      have hFc := va_free (wc := (W_X7_here cyI cyJ cyO h_o a_o_sets a_o_ringFar a_o_ringTone a_o_currents a_o_warmths a_o_depths a_o_tape a_o_readFar a_o_readTone a_o_readSea a_o_code a_o_cellAt a_o_courseAt a_o_paceAt a_o_turnsAt a_o_slowAt a_o_fuelAt a_o_ringAt a_o_pieceParts a_o_dragCell a_o_dragBy a_o_sums a_o_shares a_o_keptFar a_o_image a_o_lanes a_o_sizes a_o_items a_o_movedItems o_taped o_at y0 o_level o_noRings o_noTones o_noFuel o_pieces o_drags o_all o_noPieces o_noDrags o_kept o_tape)) hD hS hA [0, 1] rfl
      refine kc_i (wr := []) (va_runV (As := []) (rest := []) ⟨hx, hb, hml, hown, hts⟩ (c_X7_here l dC dI cyI cyJ cyO H.size h_o a_o_sets a_o_ringFar a_o_ringTone a_o_currents a_o_warmths a_o_depths a_o_tape a_o_readFar a_o_readTone a_o_readSea a_o_code a_o_cellAt a_o_courseAt a_o_paceAt a_o_turnsAt a_o_slowAt a_o_fuelAt a_o_ringAt a_o_pieceParts a_o_dragCell a_o_dragBy a_o_sums a_o_shares a_o_keptFar a_o_image a_o_lanes a_o_sizes a_o_items a_o_movedItems o_taped o_at y0 o_level o_noRings o_noTones o_noFuel o_pieces o_drags o_all o_noPieces o_noDrags o_kept o_tape _ (okb2 hw)) (cwV 0 hts (gdV (fun w h => List.mem_cons_of_mem _ h) q_877 q_879 qs_26 q_8 q_880) rfl rfl rfl (by decide +kernel) ⟨Nat.le_of_ble_eq_true rfl, Nat.le_of_ble_eq_true rfl⟩) ⟨(kpre zN_ok hK hPc hDc trivial hS hFc).1, va_recv hK hP (ci := 7) (q0 := 0) rfl rfl, (kpre zN_ok hK hPc hDc trivial hS hFc).2⟩ rfl rfl hl.1 rfl (lv_room (Nat.le_of_ble_eq_true rfl)) dX7_digit_49 ⟨Nat.le_of_ble_eq_true rfl, Nat.le_of_ble_eq_true rfl⟩) hP hD hS hFc [0, 1] [] rfl rfl (by decide +kernel) (by decide +kernel) (fun r_5 w_6 H locs hw hP hD hS => ?_)
      try dsimp only at hw
      have hP : va_P (dC, dI) vwCl (W_X7_digit cyI cyJ cyO h_o a_o_sets a_o_ringFar a_o_ringTone a_o_currents a_o_warmths a_o_depths a_o_tape a_o_readFar a_o_readTone a_o_readSea a_o_code a_o_cellAt a_o_courseAt a_o_paceAt a_o_turnsAt a_o_slowAt a_o_fuelAt a_o_ringAt a_o_pieceParts a_o_dragCell a_o_dragBy a_o_sums a_o_shares a_o_keptFar a_o_image a_o_lanes a_o_sizes a_o_items a_o_movedItems o_taped w_6 y0 o_level o_noRings o_noTones o_noFuel o_pieces o_drags o_all o_noPieces o_noDrags o_kept o_tape) H := hP.sub [0, 1] rfl
      have hD : va_D A (W_X7_digit cyI cyJ cyO h_o a_o_sets a_o_ringFar a_o_ringTone a_o_currents a_o_warmths a_o_depths a_o_tape a_o_readFar a_o_readTone a_o_readSea a_o_code a_o_cellAt a_o_courseAt a_o_paceAt a_o_turnsAt a_o_slowAt a_o_fuelAt a_o_ringAt a_o_pieceParts a_o_dragCell a_o_dragBy a_o_sums a_o_shares a_o_keptFar a_o_image a_o_lanes a_o_sizes a_o_items a_o_movedItems o_taped w_6 y0 o_level o_noRings o_noTones o_noFuel o_pieces o_drags o_all o_noPieces o_noDrags o_kept o_tape) := hD.sub [0, 1] (by decide +kernel) rfl
      clear hPc hDc hFc
      refine lv_bipush (v := 48) hx hb dX7_digit_52 (by decide) ?_
      refine lv_isub hx hb dX7_digit_54 ?_
      exact w55 (r_5 - 48) w_6 y0 _ _ hP hD hS _ (lv_sub hl [0] rfl) hw
    · replace hw := okF hw c_4
      clear c_4
      refine lv_iconst (v := 0) hx hb dX7_digit_44 (by decide) ?_
      refine lv_goto (tgt := 55) hx hb dX7_digit_45 (by decide) ?_
      exact w55 0 o_at y0 _ _ hP hD hS _ (lv_sub hl [0] rfl) hw
  have w29 : ∀ (o_at : Int32) (o_wrong : Int32) (H : Heap) (locs : List Loc), va_P (dC, dI) vwCl (W_X7_digit cyI cyJ cyO h_o a_o_sets a_o_ringFar a_o_ringTone a_o_currents a_o_warmths a_o_depths a_o_tape a_o_readFar a_o_readTone a_o_readSea a_o_code a_o_cellAt a_o_courseAt a_o_paceAt a_o_turnsAt a_o_slowAt a_o_fuelAt a_o_ringAt a_o_pieceParts a_o_dragCell a_o_dragBy a_o_sums a_o_shares a_o_keptFar a_o_image a_o_lanes a_o_sizes a_o_items a_o_movedItems o_taped o_at o_wrong o_level o_noRings o_noTones o_noFuel o_pieces o_drags o_all o_noPieces o_noDrags o_kept o_tape) H → va_D A (W_X7_digit cyI cyJ cyO h_o a_o_sets a_o_ringFar a_o_ringTone a_o_currents a_o_warmths a_o_depths a_o_tape a_o_readFar a_o_readTone a_o_readSea a_o_code a_o_cellAt a_o_courseAt a_o_paceAt a_o_turnsAt a_o_slowAt a_o_fuelAt a_o_ringAt a_o_pieceParts a_o_dragCell a_o_dragBy a_o_sums a_o_shares a_o_keptFar a_o_image a_o_lanes a_o_sizes a_o_items a_o_movedItems o_taped o_at o_wrong o_level o_noRings o_noTones o_noFuel o_pieces o_drags o_all o_noPieces o_noDrags o_kept o_tape) → va_S A s.heap H locs → ∀ (ls : Array Slot), lv_has ls 4 [(0, .ref h_o)] → okP (f_X7_digit_B29 o_taped o_at o_wrong o_tape) post → W p l e (headSpec wsX7_digit rm_X7_digit).room s m ([.ref h_o, .int x1, .int x2] : List Value).toArray below meth c H locs 0 0 Q (F0 m 29 ls [.ref h_o]) := by
    intro o_at o_wrong H locs hP hD hS ls hl hw
    unfold f_X7_digit_B29 at hw
    refine lv_iconst (v := 1) hx hb dX7_digit_29 (by decide) ?_
    refine lv_goto (tgt := 34) hx hb dX7_digit_30 (by decide) ?_
    exact w34 1 o_at o_wrong _ _ hP hD hS _ (lv_sub hl [0] rfl) hw
  unfold f_X7_digit at hw
  have hP : va_P (dC, dI) vwCl (W_X7_digit cyI cyJ cyO h_o a_o_sets a_o_ringFar a_o_ringTone a_o_currents a_o_warmths a_o_depths a_o_tape a_o_readFar a_o_readTone a_o_readSea a_o_code a_o_cellAt a_o_courseAt a_o_paceAt a_o_turnsAt a_o_slowAt a_o_fuelAt a_o_ringAt a_o_pieceParts a_o_dragCell a_o_dragBy a_o_sums a_o_shares a_o_keptFar a_o_image a_o_lanes a_o_sizes a_o_items a_o_movedItems o_taped o_at o_wrong o_level o_noRings o_noTones o_noFuel o_pieces o_drags o_all o_noPieces o_noDrags o_kept o_tape) s.heap := hP
  obtain ⟨H, hH⟩ : ∃ H, H = s.heap := ⟨_, rfl⟩
  obtain ⟨locs, hlo⟩ : ∃ x : List Loc, x = [] := ⟨_, rfl⟩
  have hP : va_P (dC, dI) vwCl (W_X7_digit cyI cyJ cyO h_o a_o_sets a_o_ringFar a_o_ringTone a_o_currents a_o_warmths a_o_depths a_o_tape a_o_readFar a_o_readTone a_o_readSea a_o_code a_o_cellAt a_o_courseAt a_o_paceAt a_o_turnsAt a_o_slowAt a_o_fuelAt a_o_ringAt a_o_pieceParts a_o_dragCell a_o_dragBy a_o_sums a_o_shares a_o_keptFar a_o_image a_o_lanes a_o_sizes a_o_items a_o_movedItems o_taped o_at o_wrong o_level o_noRings o_noTones o_noFuel o_pieces o_drags o_all o_noPieces o_noDrags o_kept o_tape) H := by rw [hH]; exact hP
  have hS : va_S A s.heap H locs := by rw [hH, hlo]; exact hS
  refine kH hH hlo ?_
  clear hH hlo
  refine lv_aload_n hx hb dX7_digit_0 rfl (lv_at hl 0 rfl) ?_
  refine lv_aload_n hx hb dX7_digit_1 rfl (lv_at hl 0 rfl) ?_
  refine va_get (D := (dC, dI)) (ci := 7) (v := .int o_wrong) (C := RX7) (T := TX7) (N := 42) hx hb hts hi7 hown hK hP 0 rfl rfl 9 (by decide) hq2 (fun _ h9 => h9) rfl dX7_digit_2 ?_
  refine lv_if_ne (tgt := 29) hx hb dX7_digit_5 (by decide) (fun c_7 => ?_) (fun c_7 => ?_)
  · replace hw := okF hw c_7
    clear c_7
    exact w29 o_at o_wrong _ _ hP hD hS _ (lv_sub hl [0] rfl) hw
  · replace hw := okT hw c_7
    clear c_7
    refine lv_aload_n hx hb dX7_digit_8 rfl (lv_at hl 0 rfl) ?_
    have hPc := hP.sub (ws' := (W_X7_here cyI cyJ cyO h_o a_o_sets a_o_ringFar a_o_ringTone a_o_currents a_o_warmths a_o_depths a_o_tape a_o_readFar a_o_readTone a_o_readSea a_o_code a_o_cellAt a_o_courseAt a_o_paceAt a_o_turnsAt a_o_slowAt a_o_fuelAt a_o_ringAt a_o_pieceParts a_o_dragCell a_o_dragBy a_o_sums a_o_shares a_o_keptFar a_o_image a_o_lanes a_o_sizes a_o_items a_o_movedItems o_taped o_at o_wrong o_level o_noRings o_noTones o_noFuel o_pieces o_drags o_all o_noPieces o_noDrags o_kept o_tape)) [0, 1] rfl
    have hDc := hD.sub (ws' := (W_X7_here cyI cyJ cyO h_o a_o_sets a_o_ringFar a_o_ringTone a_o_currents a_o_warmths a_o_depths a_o_tape a_o_readFar a_o_readTone a_o_readSea a_o_code a_o_cellAt a_o_courseAt a_o_paceAt a_o_turnsAt a_o_slowAt a_o_fuelAt a_o_ringAt a_o_pieceParts a_o_dragCell a_o_dragBy a_o_sums a_o_shares a_o_keptFar a_o_image a_o_lanes a_o_sizes a_o_items a_o_movedItems o_taped o_at o_wrong o_level o_noRings o_noTones o_noFuel o_pieces o_drags o_all o_noPieces o_noDrags o_kept o_tape)) [0, 1] (by decide +kernel) rfl
    have hFc := va_free (wc := (W_X7_here cyI cyJ cyO h_o a_o_sets a_o_ringFar a_o_ringTone a_o_currents a_o_warmths a_o_depths a_o_tape a_o_readFar a_o_readTone a_o_readSea a_o_code a_o_cellAt a_o_courseAt a_o_paceAt a_o_turnsAt a_o_slowAt a_o_fuelAt a_o_ringAt a_o_pieceParts a_o_dragCell a_o_dragBy a_o_sums a_o_shares a_o_keptFar a_o_image a_o_lanes a_o_sizes a_o_items a_o_movedItems o_taped o_at o_wrong o_level o_noRings o_noTones o_noFuel o_pieces o_drags o_all o_noPieces o_noDrags o_kept o_tape)) hD hS hA [0, 1] rfl
    refine kc_i (wr := []) (va_runV (As := []) (rest := [.ref h_o]) ⟨hx, hb, hml, hown, hts⟩ (c_X7_here l dC dI cyI cyJ cyO H.size h_o a_o_sets a_o_ringFar a_o_ringTone a_o_currents a_o_warmths a_o_depths a_o_tape a_o_readFar a_o_readTone a_o_readSea a_o_code a_o_cellAt a_o_courseAt a_o_paceAt a_o_turnsAt a_o_slowAt a_o_fuelAt a_o_ringAt a_o_pieceParts a_o_dragCell a_o_dragBy a_o_sums a_o_shares a_o_keptFar a_o_image a_o_lanes a_o_sizes a_o_items a_o_movedItems o_taped o_at o_wrong o_level o_noRings o_noTones o_noFuel o_pieces o_drags o_all o_noPieces o_noDrags o_kept o_tape _ (okb2 hw)) (cwV 0 hts (gdV (fun w h => List.mem_cons_of_mem _ h) q_877 q_879 qs_26 q_8 q_880) rfl rfl rfl (by decide +kernel) ⟨Nat.le_of_ble_eq_true rfl, Nat.le_of_ble_eq_true rfl⟩) ⟨(kpre zN_ok hK hPc hDc trivial hS hFc).1, va_recv hK hP (ci := 7) (q0 := 0) rfl rfl, (kpre zN_ok hK hPc hDc trivial hS hFc).2⟩ rfl rfl hl.1 rfl (lv_room (Nat.le_of_ble_eq_true rfl)) dX7_digit_9 ⟨Nat.le_of_ble_eq_true rfl, Nat.le_of_ble_eq_true rfl⟩) hP hD hS hFc [0, 1] [] rfl rfl (by decide +kernel) (by decide +kernel) (fun r_8 w_9 H locs hw hP hD hS => ?_)
    try dsimp only at hw
    have hP : va_P (dC, dI) vwCl (W_X7_digit cyI cyJ cyO h_o a_o_sets a_o_ringFar a_o_ringTone a_o_currents a_o_warmths a_o_depths a_o_tape a_o_readFar a_o_readTone a_o_readSea a_o_code a_o_cellAt a_o_courseAt a_o_paceAt a_o_turnsAt a_o_slowAt a_o_fuelAt a_o_ringAt a_o_pieceParts a_o_dragCell a_o_dragBy a_o_sums a_o_shares a_o_keptFar a_o_image a_o_lanes a_o_sizes a_o_items a_o_movedItems o_taped w_9 o_wrong o_level o_noRings o_noTones o_noFuel o_pieces o_drags o_all o_noPieces o_noDrags o_kept o_tape) H := hP.sub [0, 1] rfl
    have hD : va_D A (W_X7_digit cyI cyJ cyO h_o a_o_sets a_o_ringFar a_o_ringTone a_o_currents a_o_warmths a_o_depths a_o_tape a_o_readFar a_o_readTone a_o_readSea a_o_code a_o_cellAt a_o_courseAt a_o_paceAt a_o_turnsAt a_o_slowAt a_o_fuelAt a_o_ringAt a_o_pieceParts a_o_dragCell a_o_dragBy a_o_sums a_o_shares a_o_keptFar a_o_image a_o_lanes a_o_sizes a_o_items a_o_movedItems o_taped w_9 o_wrong o_level o_noRings o_noTones o_noFuel o_pieces o_drags o_all o_noPieces o_noDrags o_kept o_tape) := hD.sub [0, 1] (by decide +kernel) rfl
    clear hPc hDc hFc
    refine lv_i2l (v := r_8.toInt64) hx hb dX7_digit_12 rfl ?_
    refine lv_bipush (v := 48) hx hb dX7_digit_13 (by decide) ?_
    refine lv_iload_n hx hb dX7_digit_15 rfl (lv_at hl 1 rfl) ?_
    refine lv_iadd hx hb dX7_digit_16 ?_
    refine lv_i2l (v := (48 + x1).toInt64) hx hb dX7_digit_17 rfl ?_
    refine lv_bipush (v := 48) hx hb dX7_digit_18 (by decide) ?_
    refine lv_iload_n hx hb dX7_digit_20 rfl (lv_at hl 2 rfl) ?_
    refine lv_iadd hx hb dX7_digit_21 ?_
    refine lv_i2l (v := (48 + x2).toInt64) hx hb dX7_digit_22 rfl ?_
    have hFc := va_free (wc := []) hD hS hA [] rfl
    refine kp_i (va_runS (As := [.long r_8.toInt64, .long ((48 + x1).toInt64), .long ((48 + x2).toInt64)]) (rest := [.ref h_o]) ⟨hx, hb, hml, hown, hts⟩ (c_X7_in l dC dI cyI cyJ cyO H.size r_8.toInt64 ((48 + x1).toInt64) ((48 + x2).toInt64) _ (okb1 hw)) (va_cwS 3 hts (gdS (fun w h => List.mem_cons_of_mem _ h) q_838 q_839 q_8 q_840) rfl rfl rfl (by decide +kernel) ⟨Nat.le_of_ble_eq_true rfl, Nat.le_of_ble_eq_true rfl⟩) (kpre zN_ok hK va_P0 va_D0 trivial hS hFc) rfl rfl hl.1 rfl (lv_room (Nat.le_of_ble_eq_true rfl)) dX7_digit_23 ⟨Nat.le_of_ble_eq_true rfl, Nat.le_of_ble_eq_true rfl⟩) hP hD hS hFc (fun r_10 H locs hw hP hS => ?_)
    try dsimp only at hw
    clear hFc
    refine lv_if_ne (tgt := 33) hx hb dX7_digit_26 (by decide) (fun c_11 => ?_) (fun c_11 => ?_)
    · replace hw := okF hw c_11
      clear c_11
      refine lv_iconst (v := 0) hx hb dX7_digit_33 (by decide) ?_
      exact w34 0 w_9 o_wrong _ _ hP hD hS _ (lv_sub hl [0] rfl) hw
    · replace hw := okT hw c_11
      clear c_11
      exact w29 w_9 o_wrong _ _ hP hD hS _ (lv_sub hl [0] rfl) hw
/-! ===== X7_number ===== -/
theorem dX7_number_0 : decode cX7_number 0 = .ok (.aload_n 0, 1) := by decide +kernel
theorem dX7_number_1 : decode cX7_number 1 = .ok (.getfield 145, 3) := by decide +kernel
theorem dX7_number_4 : decode cX7_number 4 = .ok (.ifCond .ne 24, 3) := by decide +kernel
theorem dX7_number_7 : decode cX7_number 7 = .ok (.aload_n 0, 1) := by decide +kernel
theorem dX7_number_8 : decode cX7_number 8 = .ok (.invokevirtual 149, 3) := by decide +kernel
theorem dX7_number_11 : decode cX7_number 11 = .ok (.bipush 63, 2) := by decide +kernel
theorem dX7_number_13 : decode cX7_number 13 = .ok (.if_icmp .ne 15, 3) := by decide +kernel
theorem dX7_number_16 : decode cX7_number 16 = .ok (.aload_n 0, 1) := by decide +kernel
theorem dX7_number_17 : decode cX7_number 17 = .ok (.dup, 1) := by decide +kernel
theorem dX7_number_18 : decode cX7_number 18 = .ok (.getfield 142, 3) := by decide +kernel
theorem dX7_number_21 : decode cX7_number 21 = .ok (.iconst 1, 1) := by decide +kernel
theorem dX7_number_22 : decode cX7_number 22 = .ok (.iadd, 1) := by decide +kernel
theorem dX7_number_23 : decode cX7_number 23 = .ok (.putfield 142, 3) := by decide +kernel
theorem dX7_number_26 : decode cX7_number 26 = .ok (.iconst (-1), 1) := by decide +kernel
theorem dX7_number_27 : decode cX7_number 27 = .ok (.ireturn, 1) := by decide +kernel
theorem dX7_number_28 : decode cX7_number 28 = .ok (.aload_n 0, 1) := by decide +kernel
theorem dX7_number_29 : decode cX7_number 29 = .ok (.getfield 145, 3) := by decide +kernel
theorem dX7_number_32 : decode cX7_number 32 = .ok (.ifCond .ne 20, 3) := by decide +kernel
theorem dX7_number_35 : decode cX7_number 35 = .ok (.aload_n 0, 1) := by decide +kernel
theorem dX7_number_36 : decode cX7_number 36 = .ok (.invokevirtual 149, 3) := by decide +kernel
theorem dX7_number_39 : decode cX7_number 39 = .ok (.i2l, 1) := by decide +kernel
theorem dX7_number_40 : decode cX7_number 40 = .ok (.ldc2_w 153, 3) := by decide +kernel
theorem dX7_number_43 : decode cX7_number 43 = .ok (.ldc2_w 155, 3) := by decide +kernel
theorem dX7_number_46 : decode cX7_number 46 = .ok (.invokestatic 100, 3) := by decide +kernel
theorem dX7_number_49 : decode cX7_number 49 = .ok (.ifCond .ne 10, 3) := by decide +kernel
theorem dX7_number_52 : decode cX7_number 52 = .ok (.aload_n 0, 1) := by decide +kernel
theorem dX7_number_53 : decode cX7_number 53 = .ok (.iconst 1, 1) := by decide +kernel
theorem dX7_number_54 : decode cX7_number 54 = .ok (.putfield 145, 3) := by decide +kernel
theorem dX7_number_57 : decode cX7_number 57 = .ok (.iconst 0, 1) := by decide +kernel
theorem dX7_number_58 : decode cX7_number 58 = .ok (.ireturn, 1) := by decide +kernel
theorem dX7_number_59 : decode cX7_number 59 = .ok (.aload_n 0, 1) := by decide +kernel
theorem dX7_number_60 : decode cX7_number 60 = .ok (.getfield 142, 3) := by decide +kernel
theorem dX7_number_63 : decode cX7_number 63 = .ok (.istore_n 1, 1) := by decide +kernel
theorem dX7_number_64 : decode cX7_number 64 = .ok (.iconst 0, 1) := by decide +kernel
theorem dX7_number_65 : decode cX7_number 65 = .ok (.istore_n 2, 1) := by decide +kernel
theorem dX7_number_66 : decode cX7_number 66 = .ok (.aload_n 0, 1) := by decide +kernel
theorem dX7_number_67 : decode cX7_number 67 = .ok (.getfield 142, 3) := by decide +kernel
theorem dX7_number_70 : decode cX7_number 70 = .ok (.aload_n 0, 1) := by decide +kernel
theorem dX7_number_71 : decode cX7_number 71 = .ok (.getfield 138, 3) := by decide +kernel
theorem dX7_number_74 : decode cX7_number 74 = .ok (.if_icmp .ge 67, 3) := by decide +kernel
theorem dX7_number_77 : decode cX7_number 77 = .ok (.aload_n 0, 1) := by decide +kernel
theorem dX7_number_78 : decode cX7_number 78 = .ok (.getfield 28, 3) := by decide +kernel
theorem dX7_number_81 : decode cX7_number 81 = .ok (.aload_n 0, 1) := by decide +kernel
theorem dX7_number_82 : decode cX7_number 82 = .ok (.getfield 142, 3) := by decide +kernel
theorem dX7_number_85 : decode cX7_number 85 = .ok (.iaload, 1) := by decide +kernel
theorem dX7_number_86 : decode cX7_number 86 = .ok (.i2l, 1) := by decide +kernel
theorem dX7_number_87 : decode cX7_number 87 = .ok (.ldc2_w 153, 3) := by decide +kernel
theorem dX7_number_90 : decode cX7_number 90 = .ok (.ldc2_w 155, 3) := by decide +kernel
theorem dX7_number_93 : decode cX7_number 93 = .ok (.invokestatic 100, 3) := by decide +kernel
theorem dX7_number_96 : decode cX7_number 96 = .ok (.ifCond .eq 45, 3) := by decide +kernel
theorem dX7_number_99 : decode cX7_number 99 = .ok (.iload_n 2, 1) := by decide +kernel
theorem dX7_number_100 : decode cX7_number 100 = .ok (.sipush 999, 3) := by decide +kernel
theorem dX7_number_103 : decode cX7_number 103 = .ok (.if_icmp .le 7, 3) := by decide +kernel
theorem dX7_number_106 : decode cX7_number 106 = .ok (.iload_n 2, 1) := by decide +kernel
theorem dX7_number_107 : decode cX7_number 107 = .ok (.goto 20, 3) := by decide +kernel
theorem dX7_number_110 : decode cX7_number 110 = .ok (.bipush 10, 2) := by decide +kernel
theorem dX7_number_112 : decode cX7_number 112 = .ok (.iload_n 2, 1) := by decide +kernel
theorem dX7_number_113 : decode cX7_number 113 = .ok (.imul, 1) := by decide +kernel
theorem dX7_number_114 : decode cX7_number 114 = .ok (.aload_n 0, 1) := by decide +kernel
theorem dX7_number_115 : decode cX7_number 115 = .ok (.getfield 28, 3) := by decide +kernel
theorem dX7_number_118 : decode cX7_number 118 = .ok (.aload_n 0, 1) := by decide +kernel
theorem dX7_number_119 : decode cX7_number 119 = .ok (.getfield 142, 3) := by decide +kernel
theorem dX7_number_122 : decode cX7_number 122 = .ok (.iaload, 1) := by decide +kernel
theorem dX7_number_123 : decode cX7_number 123 = .ok (.iadd, 1) := by decide +kernel
theorem dX7_number_124 : decode cX7_number 124 = .ok (.bipush 48, 2) := by decide +kernel
theorem dX7_number_126 : decode cX7_number 126 = .ok (.isub, 1) := by decide +kernel
theorem dX7_number_127 : decode cX7_number 127 = .ok (.istore_n 2, 1) := by decide +kernel
theorem dX7_number_128 : decode cX7_number 128 = .ok (.aload_n 0, 1) := by decide +kernel
theorem dX7_number_129 : decode cX7_number 129 = .ok (.dup, 1) := by decide +kernel
theorem dX7_number_130 : decode cX7_number 130 = .ok (.getfield 142, 3) := by decide +kernel
theorem dX7_number_133 : decode cX7_number 133 = .ok (.iconst 1, 1) := by decide +kernel
theorem dX7_number_134 : decode cX7_number 134 = .ok (.iadd, 1) := by decide +kernel
theorem dX7_number_135 : decode cX7_number 135 = .ok (.putfield 142, 3) := by decide +kernel
theorem dX7_number_138 : decode cX7_number 138 = .ok (.goto (-72), 3) := by decide +kernel
theorem dX7_number_141 : decode cX7_number 141 = .ok (.aload_n 0, 1) := by decide +kernel
theorem dX7_number_142 : decode cX7_number 142 = .ok (.iload_n 2, 1) := by decide +kernel
theorem dX7_number_143 : decode cX7_number 143 = .ok (.bipush 40, 2) := by decide +kernel
theorem dX7_number_145 : decode cX7_number 145 = .ok (.if_icmp .le 7, 3) := by decide +kernel
theorem dX7_number_148 : decode cX7_number 148 = .ok (.iconst 1, 1) := by decide +kernel
theorem dX7_number_149 : decode cX7_number 149 = .ok (.goto 4, 3) := by decide +kernel
theorem dX7_number_152 : decode cX7_number 152 = .ok (.iconst 0, 1) := by decide +kernel
theorem dX7_number_153 : decode cX7_number 153 = .ok (.putfield 145, 3) := by decide +kernel
theorem dX7_number_156 : decode cX7_number 156 = .ok (.aload_n 0, 1) := by decide +kernel
theorem dX7_number_157 : decode cX7_number 157 = .ok (.aload_n 0, 1) := by decide +kernel
theorem dX7_number_158 : decode cX7_number 158 = .ok (.getfield 145, 3) := by decide +kernel
theorem dX7_number_161 : decode cX7_number 161 = .ok (.ifCond .eq 7, 3) := by decide +kernel
theorem dX7_number_164 : decode cX7_number 164 = .ok (.iload_n 1, 1) := by decide +kernel
theorem dX7_number_165 : decode cX7_number 165 = .ok (.goto 7, 3) := by decide +kernel
theorem dX7_number_168 : decode cX7_number 168 = .ok (.aload_n 0, 1) := by decide +kernel
theorem dX7_number_169 : decode cX7_number 169 = .ok (.getfield 142, 3) := by decide +kernel
theorem dX7_number_172 : decode cX7_number 172 = .ok (.putfield 142, 3) := by decide +kernel
theorem dX7_number_175 : decode cX7_number 175 = .ok (.iload_n 2, 1) := by decide +kernel
theorem dX7_number_176 : decode cX7_number 176 = .ok (.ireturn, 1) := by decide +kernel
abbrev W_X7_number (cyI cyJ cyO : ClassId) (h_o a_o_sets a_o_ringFar a_o_ringTone a_o_currents a_o_warmths a_o_depths a_o_tape a_o_readFar a_o_readTone a_o_readSea a_o_code a_o_cellAt a_o_courseAt a_o_paceAt a_o_turnsAt a_o_slowAt a_o_fuelAt a_o_ringAt a_o_pieceParts a_o_dragCell a_o_dragBy a_o_sums a_o_shares a_o_keptFar a_o_image a_o_lanes a_o_sizes a_o_items a_o_movedItems : Nat) (o_taped : Int32) (o_at : Int32) (o_wrong : Int32) (o_level : Int32) (o_noRings : Int32) (o_noTones : Int32) (o_noFuel : Int32) (o_pieces : Int32) (o_drags : Int32) (o_all : Int64) (o_noPieces : Int32) (o_noDrags : Int32) (o_kept : Int32) (o_tape : Nat → Int32) : va_W := [(h_o, .inr (7, [.ref a_o_sets, .ref a_o_ringFar, .ref a_o_ringTone, .ref a_o_currents, .ref a_o_warmths, .ref a_o_depths, .ref a_o_tape, .int o_taped, .int o_at, .int o_wrong, .ref a_o_readFar, .ref a_o_readTone, .ref a_o_readSea, .ref a_o_code, .ref a_o_cellAt, .ref a_o_courseAt, .ref a_o_paceAt, .ref a_o_turnsAt, .ref a_o_slowAt, .ref a_o_fuelAt, .ref a_o_ringAt, .int o_level, .int o_noRings, .int o_noTones, .int o_noFuel, .int o_pieces, .ref a_o_pieceParts, .int o_drags, .ref a_o_dragCell, .ref a_o_dragBy, .ref a_o_sums, .long o_all, .int o_noPieces, .int o_noDrags, .ref a_o_shares, .ref a_o_keptFar, .ref a_o_image, .int o_kept, .ref a_o_lanes, .ref a_o_sizes, .ref a_o_items, .ref a_o_movedItems])), (a_o_tape, .inl (cyI, 60, .inl o_tape))]
def f_X7_number_B172 (v2 : Int32) (y0 : Int32) (o_taped : Int32) (o_at : Int32) (o_wrong : Int32) (o_tape : Nat → Int32) : Option (Int32 × Int32 × Int32) :=
  some (v2, y0, o_wrong)
def f_X7_number_B153 (v1 : Int32) (v2 : Int32) (y0 : Int32) (o_taped : Int32) (o_at : Int32) (o_wrong : Int32) (o_tape : Nat → Int32) : Option (Int32 × Int32 × Int32) :=
  chk (y0 = 0 ∨ y0 = 1) <|
  if y0 = 0 then
    f_X7_number_B172 v2 o_at o_taped o_at y0 o_tape
  else
    f_X7_number_B172 v2 v1 o_taped o_at y0 o_tape
def f_X7_number_B141 (v1 : Int32) (v2 : Int32) (o_taped : Int32) (o_at : Int32) (o_wrong : Int32) (o_tape : Nat → Int32) : Option (Int32 × Int32 × Int32) :=
  if v2 ≤ 40 then
    f_X7_number_B153 v1 v2 0 o_taped o_at o_wrong o_tape
  else
    f_X7_number_B153 v1 v2 1 o_taped o_at o_wrong o_tape
def f_X7_number_B127 (k66 : Int32 → Int32 → Int32 → Int32 → Int32 → (Nat → Int32) → Option (Int32 × Int32 × Int32)) (v1 : Int32) (y0 : Int32) (o_taped : Int32) (o_at : Int32) (o_wrong : Int32) (o_tape : Nat → Int32) : Option (Int32 × Int32 × Int32) :=
  nm (o_at + 1) fun x_1 =>
  k66 v1 y0 o_taped x_1 o_wrong o_tape
def f_X7_number_L66b (k66 : Int32 → Int32 → Int32 → Int32 → Int32 → (Nat → Int32) → Option (Int32 × Int32 × Int32)) (v1 : Int32) (v2 : Int32) (o_taped : Int32) (o_at : Int32) (o_wrong : Int32) (o_tape : Nat → Int32) : Option (Int32 × Int32 × Int32) :=
  if o_taped ≤ o_at then
    f_X7_number_B141 v1 v2 o_taped o_at o_wrong o_tape
  else
    chk (¬ (o_at < 0 ∨ 60 ≤ o_at.toNatClampNeg)) <|
    bd1 (f_X7_in ((o_tape o_at.toNatClampNeg).toInt64) 48 57) fun r_2 =>
    if r_2 = 0 then
      f_X7_number_B141 v1 v2 o_taped o_at o_wrong o_tape
    else
      if v2 ≤ 999 then
        chk (¬ (o_at < 0 ∨ 60 ≤ o_at.toNatClampNeg)) <|
        f_X7_number_B127 k66 v1 (((10 * v2) + (o_tape o_at.toNatClampNeg)) - 48) o_taped o_at o_wrong o_tape
      else
        f_X7_number_B127 k66 v1 v2 o_taped o_at o_wrong o_tape
def f_X7_number_L66 : Nat → Int32 → Int32 → Int32 → Int32 → Int32 → (Nat → Int32) → Option (Int32 × Int32 × Int32)
  | 0 => fun _ _ _ _ _ _ => none
  | n + 1 => f_X7_number_L66b (f_X7_number_L66 n)
def f_X7_number_B52 (o_taped : Int32) (o_at : Int32) (o_wrong : Int32) (o_tape : Nat → Int32) : Option (Int32 × Int32 × Int32) :=
  some (0, o_at, 1)
def f_X7_number_B28 (o_taped : Int32) (o_at : Int32) (o_wrong : Int32) (o_tape : Nat → Int32) : Option (Int32 × Int32 × Int32) :=
  if o_wrong = 0 then
    bd2 (f_X7_here o_taped o_at o_tape) fun r_3 w_4 =>
    bd1 (f_X7_in r_3.toInt64 48 57) fun r_5 =>
    if r_5 = 0 then
      f_X7_number_B52 o_taped w_4 o_wrong o_tape
    else
      f_X7_number_L66 FU w_4 0 o_taped w_4 o_wrong o_tape
  else
    f_X7_number_B52 o_taped o_at o_wrong o_tape
def f_X7_number (o_taped : Int32) (o_at : Int32) (o_wrong : Int32) (o_tape : Nat → Int32) : Option (Int32 × Int32 × Int32) :=
  if o_wrong = 0 then
    bd2 (f_X7_here o_taped o_at o_tape) fun r_6 w_7 =>
    if r_6 = 63 then
      nm (w_7 + 1) fun x_8 =>
      some ((-1), x_8, o_wrong)
    else
      f_X7_number_B28 o_taped w_7 o_wrong o_tape
  else
    f_X7_number_B28 o_taped o_at o_wrong o_tape
abbrev rm_X7_number : Room := { frames := 1, cells := 0, slots := 0, locals := 25 }
set_option maxRecDepth 100000 in
set_option maxHeartbeats 4000000 in
theorem c_X7_number (l : Launch) (dC : Nat → ClassId) (dI : Nat → Nat → Nat) (cyI cyJ cyO : ClassId) (sz : Nat) (h_o a_o_sets a_o_ringFar a_o_ringTone a_o_currents a_o_warmths a_o_depths a_o_tape a_o_readFar a_o_readTone a_o_readSea a_o_code a_o_cellAt a_o_courseAt a_o_paceAt a_o_turnsAt a_o_slowAt a_o_fuelAt a_o_ringAt a_o_pieceParts a_o_dragCell a_o_dragBy a_o_sums a_o_shares a_o_keptFar a_o_image a_o_lanes a_o_sizes a_o_items a_o_movedItems : Nat) (o_taped : Int32) (o_at : Int32) (o_wrong : Int32) (o_level : Int32) (o_noRings : Int32) (o_noTones : Int32) (o_noFuel : Int32) (o_pieces : Int32) (o_drags : Int32) (o_all : Int64) (o_noPieces : Int32) (o_noDrags : Int32) (o_kept : Int32) (o_tape : Nat → Int32) (post : (Int32 × Int32 × Int32) → Prop) (hf : okP (f_X7_number o_taped o_at o_wrong o_tape) post) : Ci l (dC, dI) (tyL cyI cyJ cyO) yX7_number wsX7_number rm_X7_number [.ref h_o] sz (W_X7_number cyI cyJ cyO h_o a_o_sets a_o_ringFar a_o_ringTone a_o_currents a_o_warmths a_o_depths a_o_tape a_o_readFar a_o_readTone a_o_readSea a_o_code a_o_cellAt a_o_courseAt a_o_paceAt a_o_turnsAt a_o_slowAt a_o_fuelAt a_o_ringAt a_o_pieceParts a_o_dragCell a_o_dragBy a_o_sums a_o_shares a_o_keptFar a_o_image a_o_lanes a_o_sizes a_o_items a_o_movedItems o_taped o_at o_wrong o_level o_noRings o_noTones o_noFuel o_pieces o_drags o_all o_noPieces o_noDrags o_kept o_tape) zN (fun r u => post (r, u)) (fun u => (W_X7_number cyI cyJ cyO h_o a_o_sets a_o_ringFar a_o_ringTone a_o_currents a_o_warmths a_o_depths a_o_tape a_o_readFar a_o_readTone a_o_readSea a_o_code a_o_cellAt a_o_courseAt a_o_paceAt a_o_turnsAt a_o_slowAt a_o_fuelAt a_o_ringAt a_o_pieceParts a_o_dragCell a_o_dragBy a_o_sums a_o_shares a_o_keptFar a_o_image a_o_lanes a_o_sizes a_o_items a_o_movedItems o_taped u.1 u.2 o_level o_noRings o_noTones o_noFuel o_pieces o_drags o_all o_noPieces o_noDrags o_kept o_tape)) := by
  refine Met.ofW (cc := cX7_number) (maxL := 3) (ret := (some .int)) (by decide) rfl ?_
  intro p e s m args below meth c s₁ B hml hv
  obtain ⟨rfl, hsz, hP, hK, hD0, hZ⟩ := hv
  have hx := B.exec
  have hb := B.bytes
  have hr := B.returns
  have hts := atoms_spec (ws := wsX7_number) B.pre
  have hown : s.vm.findClass RX7 = some m.cls := findClass_of_methodNamed B.named
  have hlocks := B.notSynchronized
  subst hsz
  have hD := hD0.self (sz := s.heap.size)
  generalize hAe : va_A (W_X7_number cyI cyJ cyO h_o a_o_sets a_o_ringFar a_o_ringTone a_o_currents a_o_warmths a_o_depths a_o_tape a_o_readFar a_o_readTone a_o_readSea a_o_code a_o_cellAt a_o_courseAt a_o_paceAt a_o_turnsAt a_o_slowAt a_o_fuelAt a_o_ringAt a_o_pieceParts a_o_dragCell a_o_dragBy a_o_sums a_o_shares a_o_keptFar a_o_image a_o_lanes a_o_sizes a_o_items a_o_movedItems o_taped o_at o_wrong o_level o_noRings o_noTones o_noFuel o_pieces o_drags o_all o_noPieces o_noDrags o_kept o_tape) s.heap.size = A at hD hZ ⊢
  have hA : ∀ q : Nat, s.heap.size ≤ q → A q := fun q h => by rw [← hAe]; exact Or.inr h
  clear hAe hD0
  have hS : va_S A s.heap s.heap [] := va_S.rf
  have hl := lv_entry ([.ref h_o]) (n := 3) (Nat.le_of_ble_eq_true rfl)
  rw [lg_entry_eq]
  generalize (lg_sl ([.ref h_o]) ++ List.replicate (3 - (lg_sl ([.ref h_o])).length) Slot.unset).toArray = ls at hl ⊢
  have hl : lv_has ls 3 [(0, .ref h_o)] := hl
  refine kW (fun Q hQ => ?_)
  have hq0 := hts _ (List.mem_cons_of_mem _ q_714)
  have hi7 : ∀ w ∈ u_ws RX7 TX7 42, w ∈ wsX7_number := fun w h => List.mem_cons_of_mem _ (inX7 w h)
  have hq2 := hts _ (List.mem_cons_of_mem _ q_715)
  have hq3 := hts _ (List.mem_cons_of_mem _ q_713)
  have hq4 := hts _ (List.mem_cons_of_mem _ q_712)
  have hq5 := hts _ (List.mem_cons_of_mem _ q_885)
  have hq6 := hts _ (List.mem_cons_of_mem _ q_886)
  have hw := hf
  have w172 : ∀ (v2 : Int32) (y0 : Int32) (o_at : Int32) (o_wrong : Int32) (H : Heap) (locs : List Loc), va_P (dC, dI) vwCl (W_X7_number cyI cyJ cyO h_o a_o_sets a_o_ringFar a_o_ringTone a_o_currents a_o_warmths a_o_depths a_o_tape a_o_readFar a_o_readTone a_o_readSea a_o_code a_o_cellAt a_o_courseAt a_o_paceAt a_o_turnsAt a_o_slowAt a_o_fuelAt a_o_ringAt a_o_pieceParts a_o_dragCell a_o_dragBy a_o_sums a_o_shares a_o_keptFar a_o_image a_o_lanes a_o_sizes a_o_items a_o_movedItems o_taped o_at o_wrong o_level o_noRings o_noTones o_noFuel o_pieces o_drags o_all o_noPieces o_noDrags o_kept o_tape) H → va_D A (W_X7_number cyI cyJ cyO h_o a_o_sets a_o_ringFar a_o_ringTone a_o_currents a_o_warmths a_o_depths a_o_tape a_o_readFar a_o_readTone a_o_readSea a_o_code a_o_cellAt a_o_courseAt a_o_paceAt a_o_turnsAt a_o_slowAt a_o_fuelAt a_o_ringAt a_o_pieceParts a_o_dragCell a_o_dragBy a_o_sums a_o_shares a_o_keptFar a_o_image a_o_lanes a_o_sizes a_o_items a_o_movedItems o_taped o_at o_wrong o_level o_noRings o_noTones o_noFuel o_pieces o_drags o_all o_noPieces o_noDrags o_kept o_tape) → va_S A s.heap H locs → ∀ (ls : Array Slot), lv_has ls 3 [(2, .int v2)] → okP (f_X7_number_B172 v2 y0 o_taped o_at o_wrong o_tape) post → W p l e (headSpec wsX7_number rm_X7_number).room s m ([.ref h_o] : List Value).toArray below meth c H locs 0 0 Q (F0 m 172 ls [.int y0, .ref h_o]) := by
    intro v2 y0 o_at o_wrong H locs hP hD hS ls hl hw
    unfold f_X7_number_B172 at hw
    refine va_put (D := (dC, dI)) (ci := 7) (v := .int y0) (ty := .int) (C := RX7) (T := TX7) (N := 42) hx hb hts hi7 tyX7 tyX7_ok nmX7 hown hK hP hD hS 0 rfl rfl 8 (by decide) hq0 (fun _ h9 => h9) rfl (by decide +kernel) rfl rfl (Nat.le_of_ble_eq_true rfl) dX7_number_172 (fun H locs hP hD hS => ?_)
    have hP : va_P (dC, dI) vwCl (W_X7_number cyI cyJ cyO h_o a_o_sets a_o_ringFar a_o_ringTone a_o_currents a_o_warmths a_o_depths a_o_tape a_o_readFar a_o_readTone a_o_readSea a_o_code a_o_cellAt a_o_courseAt a_o_paceAt a_o_turnsAt a_o_slowAt a_o_fuelAt a_o_ringAt a_o_pieceParts a_o_dragCell a_o_dragBy a_o_sums a_o_shares a_o_keptFar a_o_image a_o_lanes a_o_sizes a_o_items a_o_movedItems o_taped y0 o_wrong o_level o_noRings o_noTones o_noFuel o_pieces o_drags o_all o_noPieces o_noDrags o_kept o_tape) H := hP
    have hD : va_D A (W_X7_number cyI cyJ cyO h_o a_o_sets a_o_ringFar a_o_ringTone a_o_currents a_o_warmths a_o_depths a_o_tape a_o_readFar a_o_readTone a_o_readSea a_o_code a_o_cellAt a_o_courseAt a_o_paceAt a_o_turnsAt a_o_slowAt a_o_fuelAt a_o_ringAt a_o_pieceParts a_o_dragCell a_o_dragBy a_o_sums a_o_shares a_o_keptFar a_o_image a_o_lanes a_o_sizes a_o_items a_o_movedItems o_taped y0 o_wrong o_level o_noRings o_noTones o_noFuel o_pieces o_drags o_all o_noPieces o_noDrags o_kept o_tape) := hD
    refine lv_iload_n hx hb dX7_number_175 rfl (lv_at hl 0 rfl) ?_
    rw [hQ]
    exact W.iret (v := v2) hx hb hr (fun t ht hW => ⟨⟨v2, (y0, o_wrong), rfl, okS hw, by rw [ht]; exact hP, va_K.moved hW.alike hK, hD⟩, hS.F ht⟩) hS.2.2 dX7_number_176
  have w153 : ∀ (v1 : Int32) (v2 : Int32) (y0 : Int32) (o_at : Int32) (o_wrong : Int32) (H : Heap) (locs : List Loc), va_P (dC, dI) vwCl (W_X7_number cyI cyJ cyO h_o a_o_sets a_o_ringFar a_o_ringTone a_o_currents a_o_warmths a_o_depths a_o_tape a_o_readFar a_o_readTone a_o_readSea a_o_code a_o_cellAt a_o_courseAt a_o_paceAt a_o_turnsAt a_o_slowAt a_o_fuelAt a_o_ringAt a_o_pieceParts a_o_dragCell a_o_dragBy a_o_sums a_o_shares a_o_keptFar a_o_image a_o_lanes a_o_sizes a_o_items a_o_movedItems o_taped o_at o_wrong o_level o_noRings o_noTones o_noFuel o_pieces o_drags o_all o_noPieces o_noDrags o_kept o_tape) H → va_D A (W_X7_number cyI cyJ cyO h_o a_o_sets a_o_ringFar a_o_ringTone a_o_currents a_o_warmths a_o_depths a_o_tape a_o_readFar a_o_readTone a_o_readSea a_o_code a_o_cellAt a_o_courseAt a_o_paceAt a_o_turnsAt a_o_slowAt a_o_fuelAt a_o_ringAt a_o_pieceParts a_o_dragCell a_o_dragBy a_o_sums a_o_shares a_o_keptFar a_o_image a_o_lanes a_o_sizes a_o_items a_o_movedItems o_taped o_at o_wrong o_level o_noRings o_noTones o_noFuel o_pieces o_drags o_all o_noPieces o_noDrags o_kept o_tape) → va_S A s.heap H locs → ∀ (ls : Array Slot), lv_has ls 3 [(0, .ref h_o), (1, .int v1), (2, .int v2)] → okP (f_X7_number_B153 v1 v2 y0 o_taped o_at o_wrong o_tape) post → W p l e (headSpec wsX7_number rm_X7_number).room s m ([.ref h_o] : List Value).toArray below meth c H locs 0 0 Q (F0 m 153 ls [.int y0, .ref h_o]) := by
    intro v1 v2 y0 o_at o_wrong H locs hP hD hS ls hl hw
    unfold f_X7_number_B153 at hw
    obtain ⟨h_1, hw⟩ := okC hw
    refine va_put (D := (dC, dI)) (ci := 7) (v := .int y0) (ty := .boolean) (C := RX7) (T := TX7) (N := 42) hx hb hts hi7 tyX7 tyX7_ok nmX7 hown hK hP hD hS 0 rfl rfl 9 (by decide) hq2 (fun _ h9 => h9) rfl (by decide +kernel) (nbZ h_1) (ftZ h_1) (Nat.le_of_ble_eq_true rfl) dX7_number_153 (fun H locs hP hD hS => ?_)
    have hP : va_P (dC, dI) vwCl (W_X7_number cyI cyJ cyO h_o a_o_sets a_o_ringFar a_o_ringTone a_o_currents a_o_warmths a_o_depths a_o_tape a_o_readFar a_o_readTone a_o_readSea a_o_code a_o_cellAt a_o_courseAt a_o_paceAt a_o_turnsAt a_o_slowAt a_o_fuelAt a_o_ringAt a_o_pieceParts a_o_dragCell a_o_dragBy a_o_sums a_o_shares a_o_keptFar a_o_image a_o_lanes a_o_sizes a_o_items a_o_movedItems o_taped o_at y0 o_level o_noRings o_noTones o_noFuel o_pieces o_drags o_all o_noPieces o_noDrags o_kept o_tape) H := hP
    have hD : va_D A (W_X7_number cyI cyJ cyO h_o a_o_sets a_o_ringFar a_o_ringTone a_o_currents a_o_warmths a_o_depths a_o_tape a_o_readFar a_o_readTone a_o_readSea a_o_code a_o_cellAt a_o_courseAt a_o_paceAt a_o_turnsAt a_o_slowAt a_o_fuelAt a_o_ringAt a_o_pieceParts a_o_dragCell a_o_dragBy a_o_sums a_o_shares a_o_keptFar a_o_image a_o_lanes a_o_sizes a_o_items a_o_movedItems o_taped o_at y0 o_level o_noRings o_noTones o_noFuel o_pieces o_drags o_all o_noPieces o_noDrags o_kept o_tape) := hD
    refine lv_aload_n hx hb dX7_number_156 rfl (lv_at hl 0 rfl) ?_
    refine lv_aload_n hx hb dX7_number_157 rfl (lv_at hl 0 rfl) ?_
    refine va_get (D := (dC, dI)) (ci := 7) (v := .int y0) (C := RX7) (T := TX7) (N := 42) hx hb hts hi7 hown hK hP 0 rfl rfl 9 (by decide) hq2 (fun _ h9 => h9) rfl dX7_number_158 ?_
    refine lv_if_eq (tgt := 168) hx hb dX7_number_161 (by decide) (fun c_2 => ?_) (fun c_2 => ?_)
    · replace hw := okT hw c_2
      clear c_2
      refine lv_aload_n hx hb dX7_number_168 rfl (lv_at hl 0 rfl) ?_
      refine va_get (D := (dC, dI)) (ci := 7) (v := .int o_at) (C := RX7) (T := TX7) (N := 42) hx hb hts hi7 hown hK hP 0 rfl rfl 8 (by decide) hq0 (fun _ h9 => h9) rfl dX7_number_169 ?_
      exact w172 v2 o_at o_at y0 _ _ hP hD hS _ (lv_sub hl [2] rfl) hw
    · replace hw := okF hw c_2
      clear c_2
      refine lv_iload_n hx hb dX7_number_164 rfl (lv_at hl 1 rfl) ?_
      refine lv_goto (tgt := 172) hx hb dX7_number_165 (by decide) ?_
      exact w172 v2 v1 o_at y0 _ _ hP hD hS _ (lv_sub hl [2] rfl) hw
  have w141 : ∀ (v1 : Int32) (v2 : Int32) (o_at : Int32) (o_wrong : Int32) (H : Heap) (locs : List Loc), va_P (dC, dI) vwCl (W_X7_number cyI cyJ cyO h_o a_o_sets a_o_ringFar a_o_ringTone a_o_currents a_o_warmths a_o_depths a_o_tape a_o_readFar a_o_readTone a_o_readSea a_o_code a_o_cellAt a_o_courseAt a_o_paceAt a_o_turnsAt a_o_slowAt a_o_fuelAt a_o_ringAt a_o_pieceParts a_o_dragCell a_o_dragBy a_o_sums a_o_shares a_o_keptFar a_o_image a_o_lanes a_o_sizes a_o_items a_o_movedItems o_taped o_at o_wrong o_level o_noRings o_noTones o_noFuel o_pieces o_drags o_all o_noPieces o_noDrags o_kept o_tape) H → va_D A (W_X7_number cyI cyJ cyO h_o a_o_sets a_o_ringFar a_o_ringTone a_o_currents a_o_warmths a_o_depths a_o_tape a_o_readFar a_o_readTone a_o_readSea a_o_code a_o_cellAt a_o_courseAt a_o_paceAt a_o_turnsAt a_o_slowAt a_o_fuelAt a_o_ringAt a_o_pieceParts a_o_dragCell a_o_dragBy a_o_sums a_o_shares a_o_keptFar a_o_image a_o_lanes a_o_sizes a_o_items a_o_movedItems o_taped o_at o_wrong o_level o_noRings o_noTones o_noFuel o_pieces o_drags o_all o_noPieces o_noDrags o_kept o_tape) → va_S A s.heap H locs → ∀ (ls : Array Slot), lv_has ls 3 [(0, .ref h_o), (1, .int v1), (2, .int v2)] → okP (f_X7_number_B141 v1 v2 o_taped o_at o_wrong o_tape) post → W p l e (headSpec wsX7_number rm_X7_number).room s m ([.ref h_o] : List Value).toArray below meth c H locs 0 0 Q (F0 m 141 ls []) := by
    intro v1 v2 o_at o_wrong H locs hP hD hS ls hl hw
    unfold f_X7_number_B141 at hw
    refine lv_aload_n hx hb dX7_number_141 rfl (lv_at hl 0 rfl) ?_
    refine lv_iload_n hx hb dX7_number_142 rfl (lv_at hl 2 rfl) ?_
    refine lv_bipush (v := 40) hx hb dX7_number_143 (by decide) ?_
    refine lv_icmp_le (tgt := 152) hx hb dX7_number_145 (by decide) (fun c_3 => ?_) (fun c_3 => ?_)
    · replace hw := okT hw c_3
      clear c_3
      refine lv_iconst (v := 0) hx hb dX7_number_152 (by decide) ?_
      exact w153 v1 v2 0 o_at o_wrong _ _ hP hD hS _ (lv_sub hl [0, 1, 2] rfl) hw
    · replace hw := okF hw c_3
      clear c_3
      refine lv_iconst (v := 1) hx hb dX7_number_148 (by decide) ?_
      refine lv_goto (tgt := 153) hx hb dX7_number_149 (by decide) ?_
      exact w153 v1 v2 1 o_at o_wrong _ _ hP hD hS _ (lv_sub hl [0, 1, 2] rfl) hw
  have w66 : ∀ (n : Nat), ∀ (v1 : Int32) (v2 : Int32) (o_at : Int32) (o_wrong : Int32) (H : Heap) (locs : List Loc), va_P (dC, dI) vwCl (W_X7_number cyI cyJ cyO h_o a_o_sets a_o_ringFar a_o_ringTone a_o_currents a_o_warmths a_o_depths a_o_tape a_o_readFar a_o_readTone a_o_readSea a_o_code a_o_cellAt a_o_courseAt a_o_paceAt a_o_turnsAt a_o_slowAt a_o_fuelAt a_o_ringAt a_o_pieceParts a_o_dragCell a_o_dragBy a_o_sums a_o_shares a_o_keptFar a_o_image a_o_lanes a_o_sizes a_o_items a_o_movedItems o_taped o_at o_wrong o_level o_noRings o_noTones o_noFuel o_pieces o_drags o_all o_noPieces o_noDrags o_kept o_tape) H → va_D A (W_X7_number cyI cyJ cyO h_o a_o_sets a_o_ringFar a_o_ringTone a_o_currents a_o_warmths a_o_depths a_o_tape a_o_readFar a_o_readTone a_o_readSea a_o_code a_o_cellAt a_o_courseAt a_o_paceAt a_o_turnsAt a_o_slowAt a_o_fuelAt a_o_ringAt a_o_pieceParts a_o_dragCell a_o_dragBy a_o_sums a_o_shares a_o_keptFar a_o_image a_o_lanes a_o_sizes a_o_items a_o_movedItems o_taped o_at o_wrong o_level o_noRings o_noTones o_noFuel o_pieces o_drags o_all o_noPieces o_noDrags o_kept o_tape) → va_S A s.heap H locs → ∀ (ls : Array Slot), lv_has ls 3 [(0, .ref h_o), (1, .int v1), (2, .int v2)] → okP (f_X7_number_L66 n v1 v2 o_taped o_at o_wrong o_tape) post → W p l e (headSpec wsX7_number rm_X7_number).room s m ([.ref h_o] : List Value).toArray below meth c H locs 0 0 Q (F0 m 66 ls []) := by
    intro n
    induction n with
    | zero =>
      intro v1 v2 o_at o_wrong H locs hP hD hS ls hl hw
      exact (ok0 hw).elim
    | succ n66 ih66 =>
      have w127 : ∀ (v1 : Int32) (y0 : Int32) (o_at : Int32) (o_wrong : Int32) (H : Heap) (locs : List Loc), va_P (dC, dI) vwCl (W_X7_number cyI cyJ cyO h_o a_o_sets a_o_ringFar a_o_ringTone a_o_currents a_o_warmths a_o_depths a_o_tape a_o_readFar a_o_readTone a_o_readSea a_o_code a_o_cellAt a_o_courseAt a_o_paceAt a_o_turnsAt a_o_slowAt a_o_fuelAt a_o_ringAt a_o_pieceParts a_o_dragCell a_o_dragBy a_o_sums a_o_shares a_o_keptFar a_o_image a_o_lanes a_o_sizes a_o_items a_o_movedItems o_taped o_at o_wrong o_level o_noRings o_noTones o_noFuel o_pieces o_drags o_all o_noPieces o_noDrags o_kept o_tape) H → va_D A (W_X7_number cyI cyJ cyO h_o a_o_sets a_o_ringFar a_o_ringTone a_o_currents a_o_warmths a_o_depths a_o_tape a_o_readFar a_o_readTone a_o_readSea a_o_code a_o_cellAt a_o_courseAt a_o_paceAt a_o_turnsAt a_o_slowAt a_o_fuelAt a_o_ringAt a_o_pieceParts a_o_dragCell a_o_dragBy a_o_sums a_o_shares a_o_keptFar a_o_image a_o_lanes a_o_sizes a_o_items a_o_movedItems o_taped o_at o_wrong o_level o_noRings o_noTones o_noFuel o_pieces o_drags o_all o_noPieces o_noDrags o_kept o_tape) → va_S A s.heap H locs → ∀ (ls : Array Slot), lv_has ls 3 [(0, .ref h_o), (1, .int v1)] → okP (f_X7_number_B127 (f_X7_number_L66 n66) v1 y0 o_taped o_at o_wrong o_tape) post → W p l e (headSpec wsX7_number rm_X7_number).room s m ([.ref h_o] : List Value).toArray below meth c H locs 0 0 Q (F0 m 127 ls [.int y0]) := by
        intro v1 y0 o_at o_wrong H locs hP hD hS ls hl hw
        unfold f_X7_number_B127 at hw
        refine lv_istore_n (lv' := [(2, .int y0), (0, .ref h_o), (1, .int v1)]) hx hb dX7_number_127 rfl hl (by decide) rfl (fun ls hl => ?_)
        refine lv_aload_n hx hb dX7_number_128 rfl (lv_at hl 1 rfl) ?_
        refine lv_dup hx hb dX7_number_129 rfl ?_
        refine va_get (D := (dC, dI)) (ci := 7) (v := .int o_at) (C := RX7) (T := TX7) (N := 42) hx hb hts hi7 hown hK hP 0 rfl rfl 8 (by decide) hq0 (fun _ h9 => h9) rfl dX7_number_130 ?_
        refine lv_iconst (v := 1) hx hb dX7_number_133 (by decide) ?_
        refine lv_iadd hx hb dX7_number_134 ?_
        refine lv_topi (fun x_4 ex_4 => ?_)
        replace hw := okN ex_4 hw
        clear ex_4
        refine va_put (D := (dC, dI)) (ci := 7) (v := .int x_4) (ty := .int) (C := RX7) (T := TX7) (N := 42) hx hb hts hi7 tyX7 tyX7_ok nmX7 hown hK hP hD hS 0 rfl rfl 8 (by decide) hq0 (fun _ h9 => h9) rfl (by decide +kernel) rfl rfl (Nat.le_of_ble_eq_true rfl) dX7_number_135 (fun H locs hP hD hS => ?_)
        have hP : va_P (dC, dI) vwCl (W_X7_number cyI cyJ cyO h_o a_o_sets a_o_ringFar a_o_ringTone a_o_currents a_o_warmths a_o_depths a_o_tape a_o_readFar a_o_readTone a_o_readSea a_o_code a_o_cellAt a_o_courseAt a_o_paceAt a_o_turnsAt a_o_slowAt a_o_fuelAt a_o_ringAt a_o_pieceParts a_o_dragCell a_o_dragBy a_o_sums a_o_shares a_o_keptFar a_o_image a_o_lanes a_o_sizes a_o_items a_o_movedItems o_taped x_4 o_wrong o_level o_noRings o_noTones o_noFuel o_pieces o_drags o_all o_noPieces o_noDrags o_kept o_tape) H := hP
        have hD : va_D A (W_X7_number cyI cyJ cyO h_o a_o_sets a_o_ringFar a_o_ringTone a_o_currents a_o_warmths a_o_depths a_o_tape a_o_readFar a_o_readTone a_o_readSea a_o_code a_o_cellAt a_o_courseAt a_o_paceAt a_o_turnsAt a_o_slowAt a_o_fuelAt a_o_ringAt a_o_pieceParts a_o_dragCell a_o_dragBy a_o_sums a_o_shares a_o_keptFar a_o_image a_o_lanes a_o_sizes a_o_items a_o_movedItems o_taped x_4 o_wrong o_level o_noRings o_noTones o_noFuel o_pieces o_drags o_all o_noPieces o_noDrags o_kept o_tape) := hD
        refine lv_goto (tgt := 66) hx hb dX7_number_138 (by decide) ?_
        exact ih66 v1 y0 x_4 o_wrong _ _ hP hD hS _ (lv_sub hl [1, 2, 0] rfl) hw
      intro v1 v2 o_at o_wrong H locs hP hD hS ls hl hw
      replace hw : okP (f_X7_number_L66b (f_X7_number_L66 n66) v1 v2 o_taped o_at o_wrong o_tape) post := hw
      unfold f_X7_number_L66b at hw
      refine lv_aload_n hx hb dX7_number_66 rfl (lv_at hl 0 rfl) ?_
      refine va_get (D := (dC, dI)) (ci := 7) (v := .int o_at) (C := RX7) (T := TX7) (N := 42) hx hb hts hi7 hown hK hP 0 rfl rfl 8 (by decide) hq0 (fun _ h9 => h9) rfl dX7_number_67 ?_
      refine lv_aload_n hx hb dX7_number_70 rfl (lv_at hl 0 rfl) ?_
      refine va_get (D := (dC, dI)) (ci := 7) (v := .int o_taped) (C := RX7) (T := TX7) (N := 42) hx hb hts hi7 hown hK hP 0 rfl rfl 7 (by decide) hq3 (fun _ h9 => h9) rfl dX7_number_71 ?_
      refine lv_icmp_ge (tgt := 141) hx hb dX7_number_74 (by decide) (fun c_5 => ?_) (fun c_5 => ?_)
      · replace hw := okT hw c_5
        clear c_5
        exact w141 v1 v2 o_at o_wrong _ _ hP hD hS _ (lv_sub hl [0, 1, 2] rfl) hw
      · replace hw := okF hw c_5
        clear c_5
        refine lv_aload_n hx hb dX7_number_77 rfl (lv_at hl 0 rfl) ?_
        refine va_get (D := (dC, dI)) (ci := 7) (v := .ref a_o_tape) (C := RX7) (T := TX7) (N := 42) hx hb hts hi7 hown hK hP 0 rfl rfl 6 (by decide) hq4 (fun _ h9 => h9) rfl dX7_number_78 ?_
        refine lv_aload_n hx hb dX7_number_81 rfl (lv_at hl 0 rfl) ?_
        refine va_get (D := (dC, dI)) (ci := 7) (v := .int o_at) (C := RX7) (T := TX7) (N := 42) hx hb hts hi7 hown hK hP 0 rfl rfl 8 (by decide) hq0 (fun _ h9 => h9) rfl dX7_number_82 ?_
        obtain ⟨h_6, hw⟩ := okC hw
        refine va_iald (i := o_at) hx hb hK hP 1 0 rfl rfl h_6 dX7_number_85 ?_
        refine lv_i2l (v := (o_tape o_at.toNatClampNeg).toInt64) hx hb dX7_number_86 rfl ?_
        refine lv_ldc2 (v := 48) hx hb hown hq5 dX7_number_87 ?_
        refine lv_ldc2 (v := 57) hx hb hown hq6 dX7_number_90 ?_
        have hFc := va_free (wc := []) hD hS hA [] rfl
        refine kp_i (va_runS (As := [.long ((o_tape o_at.toNatClampNeg).toInt64), .long 48, .long 57]) (rest := []) ⟨hx, hb, hml, hown, hts⟩ (c_X7_in l dC dI cyI cyJ cyO H.size ((o_tape o_at.toNatClampNeg).toInt64) 48 57 _ (okb1 hw)) (va_cwS 3 hts (gdS (fun w h => List.mem_cons_of_mem _ h) q_838 q_839 q_8 q_840) rfl rfl rfl (by decide +kernel) ⟨Nat.le_of_ble_eq_true rfl, Nat.le_of_ble_eq_true rfl⟩) (kpre zN_ok hK va_P0 va_D0 trivial hS hFc) rfl rfl hl.1 rfl (lv_room (Nat.le_of_ble_eq_true rfl)) dX7_number_93 ⟨Nat.le_of_ble_eq_true rfl, Nat.le_of_ble_eq_true rfl⟩) hP hD hS hFc (fun r_7 H locs hw hP hS => ?_)
        try dsimp only at hw
        clear hFc
        refine lv_if_eq (tgt := 141) hx hb dX7_number_96 (by decide) (fun c_8 => ?_) (fun c_8 => ?_)
        · replace hw := okT hw c_8
          clear c_8
          exact w141 v1 v2 o_at o_wrong _ _ hP hD hS _ (lv_sub hl [0, 1, 2] rfl) hw
        · replace hw := okF hw c_8
          clear c_8
          refine lv_iload_n hx hb dX7_number_99 rfl (lv_at hl 2 rfl) ?_
          refine lv_sipush (v := 999) hx hb dX7_number_100 (by decide) ?_
          refine lv_icmp_le (tgt := 110) hx hb dX7_number_103 (by decide) (fun c_9 => ?_) (fun c_9 => ?_)
          · replace hw := okT hw c_9
            clear c_9
            refine lv_bipush (v := 10) hx hb dX7_number_110 (by decide) ?_
            refine lv_iload_n hx hb dX7_number_112 rfl (lv_at hl 2 rfl) ?_
            refine lv_imul hx hb dX7_number_113 ?_
            refine lv_aload_n hx hb dX7_number_114 rfl (lv_at hl 0 rfl) ?_
            refine va_get (D := (dC, dI)) (ci := 7) (v := .ref a_o_tape) (C := RX7) (T := TX7) (N := 42) hx hb hts hi7 hown hK hP 0 rfl rfl 6 (by decide) hq4 (fun _ h9 => h9) rfl dX7_number_115 ?_
            refine lv_aload_n hx hb dX7_number_118 rfl (lv_at hl 0 rfl) ?_
            refine va_get (D := (dC, dI)) (ci := 7) (v := .int o_at) (C := RX7) (T := TX7) (N := 42) hx hb hts hi7 hown hK hP 0 rfl rfl 8 (by decide) hq0 (fun _ h9 => h9) rfl dX7_number_119 ?_
            obtain ⟨h_10, hw⟩ := okC hw
            refine va_iald (i := o_at) hx hb hK hP 1 0 rfl rfl h_10 dX7_number_122 ?_
            refine lv_iadd hx hb dX7_number_123 ?_
            refine lv_bipush (v := 48) hx hb dX7_number_124 (by decide) ?_
            refine lv_isub hx hb dX7_number_126 ?_
            exact w127 v1 (((10 * v2) + (o_tape o_at.toNatClampNeg)) - 48) o_at o_wrong _ _ hP hD hS _ (lv_sub hl [0, 1] rfl) hw
          · replace hw := okF hw c_9
            clear c_9
            refine lv_iload_n hx hb dX7_number_106 rfl (lv_at hl 2 rfl) ?_
            refine lv_goto (tgt := 127) hx hb dX7_number_107 (by decide) ?_
            exact w127 v1 v2 o_at o_wrong _ _ hP hD hS _ (lv_sub hl [0, 1] rfl) hw
  have w52 : ∀ (o_at : Int32) (o_wrong : Int32) (H : Heap) (locs : List Loc), va_P (dC, dI) vwCl (W_X7_number cyI cyJ cyO h_o a_o_sets a_o_ringFar a_o_ringTone a_o_currents a_o_warmths a_o_depths a_o_tape a_o_readFar a_o_readTone a_o_readSea a_o_code a_o_cellAt a_o_courseAt a_o_paceAt a_o_turnsAt a_o_slowAt a_o_fuelAt a_o_ringAt a_o_pieceParts a_o_dragCell a_o_dragBy a_o_sums a_o_shares a_o_keptFar a_o_image a_o_lanes a_o_sizes a_o_items a_o_movedItems o_taped o_at o_wrong o_level o_noRings o_noTones o_noFuel o_pieces o_drags o_all o_noPieces o_noDrags o_kept o_tape) H → va_D A (W_X7_number cyI cyJ cyO h_o a_o_sets a_o_ringFar a_o_ringTone a_o_currents a_o_warmths a_o_depths a_o_tape a_o_readFar a_o_readTone a_o_readSea a_o_code a_o_cellAt a_o_courseAt a_o_paceAt a_o_turnsAt a_o_slowAt a_o_fuelAt a_o_ringAt a_o_pieceParts a_o_dragCell a_o_dragBy a_o_sums a_o_shares a_o_keptFar a_o_image a_o_lanes a_o_sizes a_o_items a_o_movedItems o_taped o_at o_wrong o_level o_noRings o_noTones o_noFuel o_pieces o_drags o_all o_noPieces o_noDrags o_kept o_tape) → va_S A s.heap H locs → ∀ (ls : Array Slot), lv_has ls 3 [(0, .ref h_o)] → okP (f_X7_number_B52 o_taped o_at o_wrong o_tape) post → W p l e (headSpec wsX7_number rm_X7_number).room s m ([.ref h_o] : List Value).toArray below meth c H locs 0 0 Q (F0 m 52 ls []) := by
    intro o_at o_wrong H locs hP hD hS ls hl hw
    unfold f_X7_number_B52 at hw
    refine lv_aload_n hx hb dX7_number_52 rfl (lv_at hl 0 rfl) ?_
    refine lv_iconst (v := 1) hx hb dX7_number_53 (by decide) ?_
    refine va_put (D := (dC, dI)) (ci := 7) (v := .int 1) (ty := .boolean) (C := RX7) (T := TX7) (N := 42) hx hb hts hi7 tyX7 tyX7_ok nmX7 hown hK hP hD hS 0 rfl rfl 9 (by decide) hq2 (fun _ h9 => h9) rfl (by decide +kernel) rfl rfl (Nat.le_of_ble_eq_true rfl) dX7_number_54 (fun H locs hP hD hS => ?_)
    have hP : va_P (dC, dI) vwCl (W_X7_number cyI cyJ cyO h_o a_o_sets a_o_ringFar a_o_ringTone a_o_currents a_o_warmths a_o_depths a_o_tape a_o_readFar a_o_readTone a_o_readSea a_o_code a_o_cellAt a_o_courseAt a_o_paceAt a_o_turnsAt a_o_slowAt a_o_fuelAt a_o_ringAt a_o_pieceParts a_o_dragCell a_o_dragBy a_o_sums a_o_shares a_o_keptFar a_o_image a_o_lanes a_o_sizes a_o_items a_o_movedItems o_taped o_at 1 o_level o_noRings o_noTones o_noFuel o_pieces o_drags o_all o_noPieces o_noDrags o_kept o_tape) H := hP
    have hD : va_D A (W_X7_number cyI cyJ cyO h_o a_o_sets a_o_ringFar a_o_ringTone a_o_currents a_o_warmths a_o_depths a_o_tape a_o_readFar a_o_readTone a_o_readSea a_o_code a_o_cellAt a_o_courseAt a_o_paceAt a_o_turnsAt a_o_slowAt a_o_fuelAt a_o_ringAt a_o_pieceParts a_o_dragCell a_o_dragBy a_o_sums a_o_shares a_o_keptFar a_o_image a_o_lanes a_o_sizes a_o_items a_o_movedItems o_taped o_at 1 o_level o_noRings o_noTones o_noFuel o_pieces o_drags o_all o_noPieces o_noDrags o_kept o_tape) := hD
    refine lv_iconst (v := 0) hx hb dX7_number_57 (by decide) ?_
    rw [hQ]
    exact W.iret (v := 0) hx hb hr (fun t ht hW => ⟨⟨0, (o_at, 1), rfl, okS hw, by rw [ht]; exact hP, va_K.moved hW.alike hK, hD⟩, hS.F ht⟩) hS.2.2 dX7_number_58
  have w28 : ∀ (o_at : Int32) (o_wrong : Int32) (H : Heap) (locs : List Loc), va_P (dC, dI) vwCl (W_X7_number cyI cyJ cyO h_o a_o_sets a_o_ringFar a_o_ringTone a_o_currents a_o_warmths a_o_depths a_o_tape a_o_readFar a_o_readTone a_o_readSea a_o_code a_o_cellAt a_o_courseAt a_o_paceAt a_o_turnsAt a_o_slowAt a_o_fuelAt a_o_ringAt a_o_pieceParts a_o_dragCell a_o_dragBy a_o_sums a_o_shares a_o_keptFar a_o_image a_o_lanes a_o_sizes a_o_items a_o_movedItems o_taped o_at o_wrong o_level o_noRings o_noTones o_noFuel o_pieces o_drags o_all o_noPieces o_noDrags o_kept o_tape) H → va_D A (W_X7_number cyI cyJ cyO h_o a_o_sets a_o_ringFar a_o_ringTone a_o_currents a_o_warmths a_o_depths a_o_tape a_o_readFar a_o_readTone a_o_readSea a_o_code a_o_cellAt a_o_courseAt a_o_paceAt a_o_turnsAt a_o_slowAt a_o_fuelAt a_o_ringAt a_o_pieceParts a_o_dragCell a_o_dragBy a_o_sums a_o_shares a_o_keptFar a_o_image a_o_lanes a_o_sizes a_o_items a_o_movedItems o_taped o_at o_wrong o_level o_noRings o_noTones o_noFuel o_pieces o_drags o_all o_noPieces o_noDrags o_kept o_tape) → va_S A s.heap H locs → ∀ (ls : Array Slot), lv_has ls 3 [(0, .ref h_o)] → okP (f_X7_number_B28 o_taped o_at o_wrong o_tape) post → W p l e (headSpec wsX7_number rm_X7_number).room s m ([.ref h_o] : List Value).toArray below meth c H locs 0 0 Q (F0 m 28 ls []) := by
    intro o_at o_wrong H locs hP hD hS ls hl hw
    unfold f_X7_number_B28 at hw
    refine lv_aload_n hx hb dX7_number_28 rfl (lv_at hl 0 rfl) ?_
    refine va_get (D := (dC, dI)) (ci := 7) (v := .int o_wrong) (C := RX7) (T := TX7) (N := 42) hx hb hts hi7 hown hK hP 0 rfl rfl 9 (by decide) hq2 (fun _ h9 => h9) rfl dX7_number_29 ?_
    refine lv_if_ne (tgt := 52) hx hb dX7_number_32 (by decide) (fun c_11 => ?_) (fun c_11 => ?_)
    · replace hw := okF hw c_11
      clear c_11
      exact w52 o_at o_wrong _ _ hP hD hS _ (lv_sub hl [0] rfl) hw
    · replace hw := okT hw c_11
      clear c_11
      refine lv_aload_n hx hb dX7_number_35 rfl (lv_at hl 0 rfl) ?_
      have hPc := hP.sub (ws' := (W_X7_here cyI cyJ cyO h_o a_o_sets a_o_ringFar a_o_ringTone a_o_currents a_o_warmths a_o_depths a_o_tape a_o_readFar a_o_readTone a_o_readSea a_o_code a_o_cellAt a_o_courseAt a_o_paceAt a_o_turnsAt a_o_slowAt a_o_fuelAt a_o_ringAt a_o_pieceParts a_o_dragCell a_o_dragBy a_o_sums a_o_shares a_o_keptFar a_o_image a_o_lanes a_o_sizes a_o_items a_o_movedItems o_taped o_at o_wrong o_level o_noRings o_noTones o_noFuel o_pieces o_drags o_all o_noPieces o_noDrags o_kept o_tape)) [0, 1] rfl
      have hDc := hD.sub (ws' := (W_X7_here cyI cyJ cyO h_o a_o_sets a_o_ringFar a_o_ringTone a_o_currents a_o_warmths a_o_depths a_o_tape a_o_readFar a_o_readTone a_o_readSea a_o_code a_o_cellAt a_o_courseAt a_o_paceAt a_o_turnsAt a_o_slowAt a_o_fuelAt a_o_ringAt a_o_pieceParts a_o_dragCell a_o_dragBy a_o_sums a_o_shares a_o_keptFar a_o_image a_o_lanes a_o_sizes a_o_items a_o_movedItems o_taped o_at o_wrong o_level o_noRings o_noTones o_noFuel o_pieces o_drags o_all o_noPieces o_noDrags o_kept o_tape)) [0, 1] (by decide +kernel) rfl
      have hFc := va_free (wc := (W_X7_here cyI cyJ cyO h_o a_o_sets a_o_ringFar a_o_ringTone a_o_currents a_o_warmths a_o_depths a_o_tape a_o_readFar a_o_readTone a_o_readSea a_o_code a_o_cellAt a_o_courseAt a_o_paceAt a_o_turnsAt a_o_slowAt a_o_fuelAt a_o_ringAt a_o_pieceParts a_o_dragCell a_o_dragBy a_o_sums a_o_shares a_o_keptFar a_o_image a_o_lanes a_o_sizes a_o_items a_o_movedItems o_taped o_at o_wrong o_level o_noRings o_noTones o_noFuel o_pieces o_drags o_all o_noPieces o_noDrags o_kept o_tape)) hD hS hA [0, 1] rfl
      refine kc_i (wr := []) (va_runV (As := []) (rest := []) ⟨hx, hb, hml, hown, hts⟩ (c_X7_here l dC dI cyI cyJ cyO H.size h_o a_o_sets a_o_ringFar a_o_ringTone a_o_currents a_o_warmths a_o_depths a_o_tape a_o_readFar a_o_readTone a_o_readSea a_o_code a_o_cellAt a_o_courseAt a_o_paceAt a_o_turnsAt a_o_slowAt a_o_fuelAt a_o_ringAt a_o_pieceParts a_o_dragCell a_o_dragBy a_o_sums a_o_shares a_o_keptFar a_o_image a_o_lanes a_o_sizes a_o_items a_o_movedItems o_taped o_at o_wrong o_level o_noRings o_noTones o_noFuel o_pieces o_drags o_all o_noPieces o_noDrags o_kept o_tape _ (okb2 hw)) (cwV 0 hts (gdV (fun w h => List.mem_cons_of_mem _ h) q_877 q_879 qs_26 q_8 q_880) rfl rfl rfl (by decide +kernel) ⟨Nat.le_of_ble_eq_true rfl, Nat.le_of_ble_eq_true rfl⟩) ⟨(kpre zN_ok hK hPc hDc trivial hS hFc).1, va_recv hK hP (ci := 7) (q0 := 0) rfl rfl, (kpre zN_ok hK hPc hDc trivial hS hFc).2⟩ rfl rfl hl.1 rfl (lv_room (Nat.le_of_ble_eq_true rfl)) dX7_number_36 ⟨Nat.le_of_ble_eq_true rfl, Nat.le_of_ble_eq_true rfl⟩) hP hD hS hFc [0, 1] [] rfl rfl (by decide +kernel) (by decide +kernel) (fun r_12 w_13 H locs hw hP hD hS => ?_)
      try dsimp only at hw
      have hP : va_P (dC, dI) vwCl (W_X7_number cyI cyJ cyO h_o a_o_sets a_o_ringFar a_o_ringTone a_o_currents a_o_warmths a_o_depths a_o_tape a_o_readFar a_o_readTone a_o_readSea a_o_code a_o_cellAt a_o_courseAt a_o_paceAt a_o_turnsAt a_o_slowAt a_o_fuelAt a_o_ringAt a_o_pieceParts a_o_dragCell a_o_dragBy a_o_sums a_o_shares a_o_keptFar a_o_image a_o_lanes a_o_sizes a_o_items a_o_movedItems o_taped w_13 o_wrong o_level o_noRings o_noTones o_noFuel o_pieces o_drags o_all o_noPieces o_noDrags o_kept o_tape) H := hP.sub [0, 1] rfl
      have hD : va_D A (W_X7_number cyI cyJ cyO h_o a_o_sets a_o_ringFar a_o_ringTone a_o_currents a_o_warmths a_o_depths a_o_tape a_o_readFar a_o_readTone a_o_readSea a_o_code a_o_cellAt a_o_courseAt a_o_paceAt a_o_turnsAt a_o_slowAt a_o_fuelAt a_o_ringAt a_o_pieceParts a_o_dragCell a_o_dragBy a_o_sums a_o_shares a_o_keptFar a_o_image a_o_lanes a_o_sizes a_o_items a_o_movedItems o_taped w_13 o_wrong o_level o_noRings o_noTones o_noFuel o_pieces o_drags o_all o_noPieces o_noDrags o_kept o_tape) := hD.sub [0, 1] (by decide +kernel) rfl
      clear hPc hDc hFc
      refine lv_i2l (v := r_12.toInt64) hx hb dX7_number_39 rfl ?_
      refine lv_ldc2 (v := 48) hx hb hown hq5 dX7_number_40 ?_
      refine lv_ldc2 (v := 57) hx hb hown hq6 dX7_number_43 ?_
      have hFc := va_free (wc := []) hD hS hA [] rfl
      refine kp_i (va_runS (As := [.long r_12.toInt64, .long 48, .long 57]) (rest := []) ⟨hx, hb, hml, hown, hts⟩ (c_X7_in l dC dI cyI cyJ cyO H.size r_12.toInt64 48 57 _ (okb1 hw)) (va_cwS 3 hts (gdS (fun w h => List.mem_cons_of_mem _ h) q_838 q_839 q_8 q_840) rfl rfl rfl (by decide +kernel) ⟨Nat.le_of_ble_eq_true rfl, Nat.le_of_ble_eq_true rfl⟩) (kpre zN_ok hK va_P0 va_D0 trivial hS hFc) rfl rfl hl.1 rfl (lv_room (Nat.le_of_ble_eq_true rfl)) dX7_number_46 ⟨Nat.le_of_ble_eq_true rfl, Nat.le_of_ble_eq_true rfl⟩) hP hD hS hFc (fun r_14 H locs hw hP hS => ?_)
      try dsimp only at hw
      clear hFc
      refine lv_if_ne (tgt := 59) hx hb dX7_number_49 (by decide) (fun c_15 => ?_) (fun c_15 => ?_)
      · replace hw := okF hw c_15
        clear c_15
        refine lv_aload_n hx hb dX7_number_59 rfl (lv_at hl 0 rfl) ?_
        refine va_get (D := (dC, dI)) (ci := 7) (v := .int w_13) (C := RX7) (T := TX7) (N := 42) hx hb hts hi7 hown hK hP 0 rfl rfl 8 (by decide) hq0 (fun _ h9 => h9) rfl dX7_number_60 ?_
        refine lv_istore_n (lv' := [(1, .int w_13), (0, .ref h_o)]) hx hb dX7_number_63 rfl hl (by decide) rfl (fun ls hl => ?_)
        refine lv_iconst (v := 0) hx hb dX7_number_64 (by decide) ?_
        refine lv_istore_n (lv' := [(2, .int 0), (1, .int w_13), (0, .ref h_o)]) hx hb dX7_number_65 rfl hl (by decide) rfl (fun ls hl => ?_)
        exact w66 FU w_13 0 w_13 o_wrong _ _ hP hD hS _ (lv_sub hl [2, 1, 0] rfl) hw
      · replace hw := okT hw c_15
        clear c_15
        exact w52 w_13 o_wrong _ _ hP hD hS _ (lv_sub hl [0] rfl) hw
  unfold f_X7_number at hw
  have hP : va_P (dC, dI) vwCl (W_X7_number cyI cyJ cyO h_o a_o_sets a_o_ringFar a_o_ringTone a_o_currents a_o_warmths a_o_depths a_o_tape a_o_readFar a_o_readTone a_o_readSea a_o_code a_o_cellAt a_o_courseAt a_o_paceAt a_o_turnsAt a_o_slowAt a_o_fuelAt a_o_ringAt a_o_pieceParts a_o_dragCell a_o_dragBy a_o_sums a_o_shares a_o_keptFar a_o_image a_o_lanes a_o_sizes a_o_items a_o_movedItems o_taped o_at o_wrong o_level o_noRings o_noTones o_noFuel o_pieces o_drags o_all o_noPieces o_noDrags o_kept o_tape) s.heap := hP
  obtain ⟨H, hH⟩ : ∃ H, H = s.heap := ⟨_, rfl⟩
  obtain ⟨locs, hlo⟩ : ∃ x : List Loc, x = [] := ⟨_, rfl⟩
  have hP : va_P (dC, dI) vwCl (W_X7_number cyI cyJ cyO h_o a_o_sets a_o_ringFar a_o_ringTone a_o_currents a_o_warmths a_o_depths a_o_tape a_o_readFar a_o_readTone a_o_readSea a_o_code a_o_cellAt a_o_courseAt a_o_paceAt a_o_turnsAt a_o_slowAt a_o_fuelAt a_o_ringAt a_o_pieceParts a_o_dragCell a_o_dragBy a_o_sums a_o_shares a_o_keptFar a_o_image a_o_lanes a_o_sizes a_o_items a_o_movedItems o_taped o_at o_wrong o_level o_noRings o_noTones o_noFuel o_pieces o_drags o_all o_noPieces o_noDrags o_kept o_tape) H := by rw [hH]; exact hP
  have hS : va_S A s.heap H locs := by rw [hH, hlo]; exact hS
  refine kH hH hlo ?_
  clear hH hlo
  refine lv_aload_n hx hb dX7_number_0 rfl (lv_at hl 0 rfl) ?_
  refine va_get (D := (dC, dI)) (ci := 7) (v := .int o_wrong) (C := RX7) (T := TX7) (N := 42) hx hb hts hi7 hown hK hP 0 rfl rfl 9 (by decide) hq2 (fun _ h9 => h9) rfl dX7_number_1 ?_
  refine lv_if_ne (tgt := 28) hx hb dX7_number_4 (by decide) (fun c_16 => ?_) (fun c_16 => ?_)
  · replace hw := okF hw c_16
    clear c_16
    exact w28 o_at o_wrong _ _ hP hD hS _ (lv_sub hl [0] rfl) hw
  · replace hw := okT hw c_16
    clear c_16
    refine lv_aload_n hx hb dX7_number_7 rfl (lv_at hl 0 rfl) ?_
    have hPc := hP.sub (ws' := (W_X7_here cyI cyJ cyO h_o a_o_sets a_o_ringFar a_o_ringTone a_o_currents a_o_warmths a_o_depths a_o_tape a_o_readFar a_o_readTone a_o_readSea a_o_code a_o_cellAt a_o_courseAt a_o_paceAt a_o_turnsAt a_o_slowAt a_o_fuelAt a_o_ringAt a_o_pieceParts a_o_dragCell a_o_dragBy a_o_sums a_o_shares a_o_keptFar a_o_image a_o_lanes a_o_sizes a_o_items a_o_movedItems o_taped o_at o_wrong o_level o_noRings o_noTones o_noFuel o_pieces o_drags o_all o_noPieces o_noDrags o_kept o_tape)) [0, 1] rfl
    have hDc := hD.sub (ws' := (W_X7_here cyI cyJ cyO h_o a_o_sets a_o_ringFar a_o_ringTone a_o_currents a_o_warmths a_o_depths a_o_tape a_o_readFar a_o_readTone a_o_readSea a_o_code a_o_cellAt a_o_courseAt a_o_paceAt a_o_turnsAt a_o_slowAt a_o_fuelAt a_o_ringAt a_o_pieceParts a_o_dragCell a_o_dragBy a_o_sums a_o_shares a_o_keptFar a_o_image a_o_lanes a_o_sizes a_o_items a_o_movedItems o_taped o_at o_wrong o_level o_noRings o_noTones o_noFuel o_pieces o_drags o_all o_noPieces o_noDrags o_kept o_tape)) [0, 1] (by decide +kernel) rfl
    have hFc := va_free (wc := (W_X7_here cyI cyJ cyO h_o a_o_sets a_o_ringFar a_o_ringTone a_o_currents a_o_warmths a_o_depths a_o_tape a_o_readFar a_o_readTone a_o_readSea a_o_code a_o_cellAt a_o_courseAt a_o_paceAt a_o_turnsAt a_o_slowAt a_o_fuelAt a_o_ringAt a_o_pieceParts a_o_dragCell a_o_dragBy a_o_sums a_o_shares a_o_keptFar a_o_image a_o_lanes a_o_sizes a_o_items a_o_movedItems o_taped o_at o_wrong o_level o_noRings o_noTones o_noFuel o_pieces o_drags o_all o_noPieces o_noDrags o_kept o_tape)) hD hS hA [0, 1] rfl
    refine kc_i (wr := []) (va_runV (As := []) (rest := []) ⟨hx, hb, hml, hown, hts⟩ (c_X7_here l dC dI cyI cyJ cyO H.size h_o a_o_sets a_o_ringFar a_o_ringTone a_o_currents a_o_warmths a_o_depths a_o_tape a_o_readFar a_o_readTone a_o_readSea a_o_code a_o_cellAt a_o_courseAt a_o_paceAt a_o_turnsAt a_o_slowAt a_o_fuelAt a_o_ringAt a_o_pieceParts a_o_dragCell a_o_dragBy a_o_sums a_o_shares a_o_keptFar a_o_image a_o_lanes a_o_sizes a_o_items a_o_movedItems o_taped o_at o_wrong o_level o_noRings o_noTones o_noFuel o_pieces o_drags o_all o_noPieces o_noDrags o_kept o_tape _ (okb2 hw)) (cwV 0 hts (gdV (fun w h => List.mem_cons_of_mem _ h) q_877 q_879 qs_26 q_8 q_880) rfl rfl rfl (by decide +kernel) ⟨Nat.le_of_ble_eq_true rfl, Nat.le_of_ble_eq_true rfl⟩) ⟨(kpre zN_ok hK hPc hDc trivial hS hFc).1, va_recv hK hP (ci := 7) (q0 := 0) rfl rfl, (kpre zN_ok hK hPc hDc trivial hS hFc).2⟩ rfl rfl hl.1 rfl (lv_room (Nat.le_of_ble_eq_true rfl)) dX7_number_8 ⟨Nat.le_of_ble_eq_true rfl, Nat.le_of_ble_eq_true rfl⟩) hP hD hS hFc [0, 1] [] rfl rfl (by decide +kernel) (by decide +kernel) (fun r_17 w_18 H locs hw hP hD hS => ?_)
    try dsimp only at hw
    have hP : va_P (dC, dI) vwCl (W_X7_number cyI cyJ cyO h_o a_o_sets a_o_ringFar a_o_ringTone a_o_currents a_o_warmths a_o_depths a_o_tape a_o_readFar a_o_readTone a_o_readSea a_o_code a_o_cellAt a_o_courseAt a_o_paceAt a_o_turnsAt a_o_slowAt a_o_fuelAt a_o_ringAt a_o_pieceParts a_o_dragCell a_o_dragBy a_o_sums a_o_shares a_o_keptFar a_o_image a_o_lanes a_o_sizes a_o_items a_o_movedItems o_taped w_18 o_wrong o_level o_noRings o_noTones o_noFuel o_pieces o_drags o_all o_noPieces o_noDrags o_kept o_tape) H := hP.sub [0, 1] rfl
    have hD : va_D A (W_X7_number cyI cyJ cyO h_o a_o_sets a_o_ringFar a_o_ringTone a_o_currents a_o_warmths a_o_depths a_o_tape a_o_readFar a_o_readTone a_o_readSea a_o_code a_o_cellAt a_o_courseAt a_o_paceAt a_o_turnsAt a_o_slowAt a_o_fuelAt a_o_ringAt a_o_pieceParts a_o_dragCell a_o_dragBy a_o_sums a_o_shares a_o_keptFar a_o_image a_o_lanes a_o_sizes a_o_items a_o_movedItems o_taped w_18 o_wrong o_level o_noRings o_noTones o_noFuel o_pieces o_drags o_all o_noPieces o_noDrags o_kept o_tape) := hD.sub [0, 1] (by decide +kernel) rfl
    clear hPc hDc hFc
    refine lv_bipush (v := 63) hx hb dX7_number_11 (by decide) ?_
    refine lv_icmp_ne (tgt := 28) hx hb dX7_number_13 (by decide) (fun c_19 => ?_) (fun c_19 => ?_)
    · replace hw := okF hw c_19
      clear c_19
      exact w28 w_18 o_wrong _ _ hP hD hS _ (lv_sub hl [0] rfl) hw
    · replace hw := okT hw c_19
      clear c_19
      refine lv_aload_n hx hb dX7_number_16 rfl (lv_at hl 0 rfl) ?_
      refine lv_dup hx hb dX7_number_17 rfl ?_
      refine va_get (D := (dC, dI)) (ci := 7) (v := .int w_18) (C := RX7) (T := TX7) (N := 42) hx hb hts hi7 hown hK hP 0 rfl rfl 8 (by decide) hq0 (fun _ h9 => h9) rfl dX7_number_18 ?_
      refine lv_iconst (v := 1) hx hb dX7_number_21 (by decide) ?_
      refine lv_iadd hx hb dX7_number_22 ?_
      refine lv_topi (fun x_20 ex_20 => ?_)
      replace hw := okN ex_20 hw
      clear ex_20
      refine va_put (D := (dC, dI)) (ci := 7) (v := .int x_20) (ty := .int) (C := RX7) (T := TX7) (N := 42) hx hb hts hi7 tyX7 tyX7_ok nmX7 hown hK hP hD hS 0 rfl rfl 8 (by decide) hq0 (fun _ h9 => h9) rfl (by decide +kernel) rfl rfl (Nat.le_of_ble_eq_true rfl) dX7_number_23 (fun H locs hP hD hS => ?_)
      have hP : va_P (dC, dI) vwCl (W_X7_number cyI cyJ cyO h_o a_o_sets a_o_ringFar a_o_ringTone a_o_currents a_o_warmths a_o_depths a_o_tape a_o_readFar a_o_readTone a_o_readSea a_o_code a_o_cellAt a_o_courseAt a_o_paceAt a_o_turnsAt a_o_slowAt a_o_fuelAt a_o_ringAt a_o_pieceParts a_o_dragCell a_o_dragBy a_o_sums a_o_shares a_o_keptFar a_o_image a_o_lanes a_o_sizes a_o_items a_o_movedItems o_taped x_20 o_wrong o_level o_noRings o_noTones o_noFuel o_pieces o_drags o_all o_noPieces o_noDrags o_kept o_tape) H := hP
      have hD : va_D A (W_X7_number cyI cyJ cyO h_o a_o_sets a_o_ringFar a_o_ringTone a_o_currents a_o_warmths a_o_depths a_o_tape a_o_readFar a_o_readTone a_o_readSea a_o_code a_o_cellAt a_o_courseAt a_o_paceAt a_o_turnsAt a_o_slowAt a_o_fuelAt a_o_ringAt a_o_pieceParts a_o_dragCell a_o_dragBy a_o_sums a_o_shares a_o_keptFar a_o_image a_o_lanes a_o_sizes a_o_items a_o_movedItems o_taped x_20 o_wrong o_level o_noRings o_noTones o_noFuel o_pieces o_drags o_all o_noPieces o_noDrags o_kept o_tape) := hD
      refine lv_iconst (v := (-1)) hx hb dX7_number_26 (by decide) ?_
      rw [hQ]
      exact W.iret (v := (-1)) hx hb hr (fun t ht hW => ⟨⟨(-1), (x_20, o_wrong), rfl, okS hw, by rw [ht]; exact hP, va_K.moved hW.alike hK, hD⟩, hS.F ht⟩) hS.2.2 dX7_number_27
/-! ===== X7_rings ===== -/
theorem dX7_rings_0 : decode cX7_rings 0 = .ok (.iconst 0, 1) := by decide +kernel
theorem dX7_rings_1 : decode cX7_rings 1 = .ok (.istore_n 1, 1) := by decide +kernel
theorem dX7_rings_2 : decode cX7_rings 2 = .ok (.iload_n 1, 1) := by decide +kernel
theorem dX7_rings_3 : decode cX7_rings 3 = .ok (.bipush 7, 2) := by decide +kernel
theorem dX7_rings_5 : decode cX7_rings 5 = .ok (.if_icmp .ge 33, 3) := by decide +kernel
theorem dX7_rings_8 : decode cX7_rings 8 = .ok (.aload_n 0, 1) := by decide +kernel
theorem dX7_rings_9 : decode cX7_rings 9 = .ok (.getfield 31, 3) := by decide +kernel
theorem dX7_rings_12 : decode cX7_rings 12 = .ok (.iload_n 1, 1) := by decide +kernel
theorem dX7_rings_13 : decode cX7_rings 13 = .ok (.aload_n 0, 1) := by decide +kernel
theorem dX7_rings_14 : decode cX7_rings 14 = .ok (.getfield 13, 3) := by decide +kernel
theorem dX7_rings_17 : decode cX7_rings 17 = .ok (.iload_n 1, 1) := by decide +kernel
theorem dX7_rings_18 : decode cX7_rings 18 = .ok (.iaload, 1) := by decide +kernel
theorem dX7_rings_19 : decode cX7_rings 19 = .ok (.iastore, 1) := by decide +kernel
theorem dX7_rings_20 : decode cX7_rings 20 = .ok (.aload_n 0, 1) := by decide +kernel
theorem dX7_rings_21 : decode cX7_rings 21 = .ok (.getfield 34, 3) := by decide +kernel
theorem dX7_rings_24 : decode cX7_rings 24 = .ok (.iload_n 1, 1) := by decide +kernel
theorem dX7_rings_25 : decode cX7_rings 25 = .ok (.aload_n 0, 1) := by decide +kernel
theorem dX7_rings_26 : decode cX7_rings 26 = .ok (.getfield 16, 3) := by decide +kernel
theorem dX7_rings_29 : decode cX7_rings 29 = .ok (.iload_n 1, 1) := by decide +kernel
theorem dX7_rings_30 : decode cX7_rings 30 = .ok (.iaload, 1) := by decide +kernel
theorem dX7_rings_31 : decode cX7_rings 31 = .ok (.iastore, 1) := by decide +kernel
theorem dX7_rings_32 : decode cX7_rings 32 = .ok (.iinc 1 1, 3) := by decide +kernel
theorem dX7_rings_35 : decode cX7_rings 35 = .ok (.goto (-33), 3) := by decide +kernel
theorem dX7_rings_38 : decode cX7_rings 38 = .ok (.aload_n 0, 1) := by decide +kernel
theorem dX7_rings_39 : decode cX7_rings 39 = .ok (.iconst 0, 1) := by decide +kernel
theorem dX7_rings_40 : decode cX7_rings 40 = .ok (.putfield 142, 3) := by decide +kernel
theorem dX7_rings_43 : decode cX7_rings 43 = .ok (.aload_n 0, 1) := by decide +kernel
theorem dX7_rings_44 : decode cX7_rings 44 = .ok (.iconst 0, 1) := by decide +kernel
theorem dX7_rings_45 : decode cX7_rings 45 = .ok (.putfield 145, 3) := by decide +kernel
theorem dX7_rings_48 : decode cX7_rings 48 = .ok (.iconst 0, 1) := by decide +kernel
theorem dX7_rings_49 : decode cX7_rings 49 = .ok (.istore_n 1, 1) := by decide +kernel
theorem dX7_rings_50 : decode cX7_rings 50 = .ok (.iconst 0, 1) := by decide +kernel
theorem dX7_rings_51 : decode cX7_rings 51 = .ok (.istore_n 2, 1) := by decide +kernel
theorem dX7_rings_52 : decode cX7_rings 52 = .ok (.iconst 1, 1) := by decide +kernel
theorem dX7_rings_53 : decode cX7_rings 53 = .ok (.istore_n 3, 1) := by decide +kernel
theorem dX7_rings_54 : decode cX7_rings 54 = .ok (.iload_n 3, 1) := by decide +kernel
theorem dX7_rings_55 : decode cX7_rings 55 = .ok (.ifCond .eq 197, 3) := by decide +kernel
theorem dX7_rings_58 : decode cX7_rings 58 = .ok (.aload_n 0, 1) := by decide +kernel
theorem dX7_rings_59 : decode cX7_rings 59 = .ok (.iload_n 2, 1) := by decide +kernel
theorem dX7_rings_60 : decode cX7_rings 60 = .ok (.iconst 1, 1) := by decide +kernel
theorem dX7_rings_61 : decode cX7_rings 61 = .ok (.iadd, 1) := by decide +kernel
theorem dX7_rings_62 : decode cX7_rings 62 = .ok (.bipush 6, 2) := by decide +kernel
theorem dX7_rings_64 : decode cX7_rings 64 = .ok (.invokevirtual 157, 3) := by decide +kernel
theorem dX7_rings_67 : decode cX7_rings 67 = .ok (.istore 4, 2) := by decide +kernel
theorem dX7_rings_69 : decode cX7_rings 69 = .ok (.iload 4, 2) := by decide +kernel
theorem dX7_rings_71 : decode cX7_rings 71 = .ok (.istore_n 2, 1) := by decide +kernel
theorem dX7_rings_72 : decode cX7_rings 72 = .ok (.aload_n 0, 1) := by decide +kernel
theorem dX7_rings_73 : decode cX7_rings 73 = .ok (.aload_n 0, 1) := by decide +kernel
theorem dX7_rings_74 : decode cX7_rings 74 = .ok (.getfield 145, 3) := by decide +kernel
theorem dX7_rings_77 : decode cX7_rings 77 = .ok (.ifCond .ne 12, 3) := by decide +kernel
theorem dX7_rings_80 : decode cX7_rings 80 = .ok (.aload_n 0, 1) := by decide +kernel
theorem dX7_rings_81 : decode cX7_rings 81 = .ok (.invokevirtual 149, 3) := by decide +kernel
theorem dX7_rings_84 : decode cX7_rings 84 = .ok (.bipush 58, 2) := by decide +kernel
theorem dX7_rings_86 : decode cX7_rings 86 = .ok (.if_icmp .eq 7, 3) := by decide +kernel
theorem dX7_rings_89 : decode cX7_rings 89 = .ok (.iconst 1, 1) := by decide +kernel
theorem dX7_rings_90 : decode cX7_rings 90 = .ok (.goto 4, 3) := by decide +kernel
theorem dX7_rings_93 : decode cX7_rings 93 = .ok (.iconst 0, 1) := by decide +kernel
theorem dX7_rings_94 : decode cX7_rings 94 = .ok (.putfield 145, 3) := by decide +kernel
theorem dX7_rings_97 : decode cX7_rings 97 = .ok (.aload_n 0, 1) := by decide +kernel
theorem dX7_rings_98 : decode cX7_rings 98 = .ok (.dup, 1) := by decide +kernel
theorem dX7_rings_99 : decode cX7_rings 99 = .ok (.getfield 142, 3) := by decide +kernel
theorem dX7_rings_102 : decode cX7_rings 102 = .ok (.aload_n 0, 1) := by decide +kernel
theorem dX7_rings_103 : decode cX7_rings 103 = .ok (.getfield 145, 3) := by decide +kernel
theorem dX7_rings_106 : decode cX7_rings 106 = .ok (.ifCond .eq 7, 3) := by decide +kernel
theorem dX7_rings_109 : decode cX7_rings 109 = .ok (.iconst 0, 1) := by decide +kernel
theorem dX7_rings_110 : decode cX7_rings 110 = .ok (.goto 4, 3) := by decide +kernel
theorem dX7_rings_113 : decode cX7_rings 113 = .ok (.iconst 1, 1) := by decide +kernel
theorem dX7_rings_114 : decode cX7_rings 114 = .ok (.iadd, 1) := by decide +kernel
theorem dX7_rings_115 : decode cX7_rings 115 = .ok (.putfield 142, 3) := by decide +kernel
theorem dX7_rings_118 : decode cX7_rings 118 = .ok (.aload_n 0, 1) := by decide +kernel
theorem dX7_rings_119 : decode cX7_rings 119 = .ok (.getfield 31, 3) := by decide +kernel
theorem dX7_rings_122 : decode cX7_rings 122 = .ok (.iload 4, 2) := by decide +kernel
theorem dX7_rings_124 : decode cX7_rings 124 = .ok (.aload_n 0, 1) := by decide +kernel
theorem dX7_rings_125 : decode cX7_rings 125 = .ok (.invokevirtual 161, 3) := by decide +kernel
theorem dX7_rings_128 : decode cX7_rings 128 = .ok (.iastore, 1) := by decide +kernel
theorem dX7_rings_129 : decode cX7_rings 129 = .ok (.aload_n 0, 1) := by decide +kernel
theorem dX7_rings_130 : decode cX7_rings 130 = .ok (.getfield 145, 3) := by decide +kernel
theorem dX7_rings_133 : decode cX7_rings 133 = .ok (.ifCond .eq 7, 3) := by decide +kernel
theorem dX7_rings_136 : decode cX7_rings 136 = .ok (.iconst 0, 1) := by decide +kernel
theorem dX7_rings_137 : decode cX7_rings 137 = .ok (.goto 7, 3) := by decide +kernel
theorem dX7_rings_140 : decode cX7_rings 140 = .ok (.aload_n 0, 1) := by decide +kernel
theorem dX7_rings_141 : decode cX7_rings 141 = .ok (.invokevirtual 149, 3) := by decide +kernel
theorem dX7_rings_144 : decode cX7_rings 144 = .ok (.istore 5, 2) := by decide +kernel
theorem dX7_rings_146 : decode cX7_rings 146 = .ok (.aload_n 0, 1) := by decide +kernel
theorem dX7_rings_147 : decode cX7_rings 147 = .ok (.getfield 34, 3) := by decide +kernel
theorem dX7_rings_150 : decode cX7_rings 150 = .ok (.iload 4, 2) := by decide +kernel
theorem dX7_rings_152 : decode cX7_rings 152 = .ok (.iload 5, 2) := by decide +kernel
theorem dX7_rings_154 : decode cX7_rings 154 = .ok (.bipush 43, 2) := by decide +kernel
theorem dX7_rings_156 : decode cX7_rings 156 = .ok (.if_icmp .ne 7, 3) := by decide +kernel
theorem dX7_rings_159 : decode cX7_rings 159 = .ok (.iconst 2, 1) := by decide +kernel
theorem dX7_rings_160 : decode cX7_rings 160 = .ok (.goto 15, 3) := by decide +kernel
theorem dX7_rings_163 : decode cX7_rings 163 = .ok (.iload 5, 2) := by decide +kernel
theorem dX7_rings_165 : decode cX7_rings 165 = .ok (.bipush 45, 2) := by decide +kernel
theorem dX7_rings_167 : decode cX7_rings 167 = .ok (.if_icmp .ne 7, 3) := by decide +kernel
theorem dX7_rings_170 : decode cX7_rings 170 = .ok (.iconst 1, 1) := by decide +kernel
theorem dX7_rings_171 : decode cX7_rings 171 = .ok (.goto 4, 3) := by decide +kernel
theorem dX7_rings_174 : decode cX7_rings 174 = .ok (.iconst 0, 1) := by decide +kernel
theorem dX7_rings_175 : decode cX7_rings 175 = .ok (.iastore, 1) := by decide +kernel
theorem dX7_rings_176 : decode cX7_rings 176 = .ok (.aload_n 0, 1) := by decide +kernel
theorem dX7_rings_177 : decode cX7_rings 177 = .ok (.dup, 1) := by decide +kernel
theorem dX7_rings_178 : decode cX7_rings 178 = .ok (.getfield 142, 3) := by decide +kernel
theorem dX7_rings_181 : decode cX7_rings 181 = .ok (.aload_n 0, 1) := by decide +kernel
theorem dX7_rings_182 : decode cX7_rings 182 = .ok (.getfield 34, 3) := by decide +kernel
theorem dX7_rings_185 : decode cX7_rings 185 = .ok (.iload 4, 2) := by decide +kernel
theorem dX7_rings_187 : decode cX7_rings 187 = .ok (.iaload, 1) := by decide +kernel
theorem dX7_rings_188 : decode cX7_rings 188 = .ok (.ifCond .le 7, 3) := by decide +kernel
theorem dX7_rings_191 : decode cX7_rings 191 = .ok (.iconst 1, 1) := by decide +kernel
theorem dX7_rings_192 : decode cX7_rings 192 = .ok (.goto 4, 3) := by decide +kernel
theorem dX7_rings_195 : decode cX7_rings 195 = .ok (.iconst 0, 1) := by decide +kernel
theorem dX7_rings_196 : decode cX7_rings 196 = .ok (.iadd, 1) := by decide +kernel
theorem dX7_rings_197 : decode cX7_rings 197 = .ok (.putfield 142, 3) := by decide +kernel
theorem dX7_rings_200 : decode cX7_rings 200 = .ok (.iinc 1 1, 3) := by decide +kernel
theorem dX7_rings_203 : decode cX7_rings 203 = .ok (.aload_n 0, 1) := by decide +kernel
theorem dX7_rings_204 : decode cX7_rings 204 = .ok (.getfield 145, 3) := by decide +kernel
theorem dX7_rings_207 : decode cX7_rings 207 = .ok (.ifCond .ne 22, 3) := by decide +kernel
theorem dX7_rings_210 : decode cX7_rings 210 = .ok (.iload_n 1, 1) := by decide +kernel
theorem dX7_rings_211 : decode cX7_rings 211 = .ok (.bipush 6, 2) := by decide +kernel
theorem dX7_rings_213 : decode cX7_rings 213 = .ok (.if_icmp .ge 16, 3) := by decide +kernel
theorem dX7_rings_216 : decode cX7_rings 216 = .ok (.aload_n 0, 1) := by decide +kernel
theorem dX7_rings_217 : decode cX7_rings 217 = .ok (.invokevirtual 149, 3) := by decide +kernel
theorem dX7_rings_220 : decode cX7_rings 220 = .ok (.bipush 59, 2) := by decide +kernel
theorem dX7_rings_222 : decode cX7_rings 222 = .ok (.if_icmp .ne 7, 3) := by decide +kernel
theorem dX7_rings_225 : decode cX7_rings 225 = .ok (.iconst 1, 1) := by decide +kernel
theorem dX7_rings_226 : decode cX7_rings 226 = .ok (.goto 4, 3) := by decide +kernel
theorem dX7_rings_229 : decode cX7_rings 229 = .ok (.iconst 0, 1) := by decide +kernel
theorem dX7_rings_230 : decode cX7_rings 230 = .ok (.istore_n 3, 1) := by decide +kernel
theorem dX7_rings_231 : decode cX7_rings 231 = .ok (.aload_n 0, 1) := by decide +kernel
theorem dX7_rings_232 : decode cX7_rings 232 = .ok (.dup, 1) := by decide +kernel
theorem dX7_rings_233 : decode cX7_rings 233 = .ok (.getfield 142, 3) := by decide +kernel
theorem dX7_rings_236 : decode cX7_rings 236 = .ok (.iload_n 3, 1) := by decide +kernel
theorem dX7_rings_237 : decode cX7_rings 237 = .ok (.ifCond .eq 7, 3) := by decide +kernel
theorem dX7_rings_240 : decode cX7_rings 240 = .ok (.iconst 1, 1) := by decide +kernel
theorem dX7_rings_241 : decode cX7_rings 241 = .ok (.goto 4, 3) := by decide +kernel
theorem dX7_rings_244 : decode cX7_rings 244 = .ok (.iconst 0, 1) := by decide +kernel
theorem dX7_rings_245 : decode cX7_rings 245 = .ok (.iadd, 1) := by decide +kernel
theorem dX7_rings_246 : decode cX7_rings 246 = .ok (.putfield 142, 3) := by decide +kernel
theorem dX7_rings_249 : decode cX7_rings 249 = .ok (.goto (-195), 3) := by decide +kernel
theorem dX7_rings_252 : decode cX7_rings 252 = .ok (.aload_n 0, 1) := by decide +kernel
theorem dX7_rings_253 : decode cX7_rings 253 = .ok (.aload_n 0, 1) := by decide +kernel
theorem dX7_rings_254 : decode cX7_rings 254 = .ok (.getfield 145, 3) := by decide +kernel
theorem dX7_rings_257 : decode cX7_rings 257 = .ok (.ifCond .ne 10, 3) := by decide +kernel
theorem dX7_rings_260 : decode cX7_rings 260 = .ok (.aload_n 0, 1) := by decide +kernel
theorem dX7_rings_261 : decode cX7_rings 261 = .ok (.invokevirtual 149, 3) := by decide +kernel
theorem dX7_rings_264 : decode cX7_rings 264 = .ok (.ifCond .eq 7, 3) := by decide +kernel
theorem dX7_rings_267 : decode cX7_rings 267 = .ok (.iconst 1, 1) := by decide +kernel
theorem dX7_rings_268 : decode cX7_rings 268 = .ok (.goto 4, 3) := by decide +kernel
theorem dX7_rings_271 : decode cX7_rings 271 = .ok (.iconst 0, 1) := by decide +kernel
theorem dX7_rings_272 : decode cX7_rings 272 = .ok (.putfield 145, 3) := by decide +kernel
theorem dX7_rings_275 : decode cX7_rings 275 = .ok (.aload_n 0, 1) := by decide +kernel
theorem dX7_rings_276 : decode cX7_rings 276 = .ok (.iconst 0, 1) := by decide +kernel
theorem dX7_rings_277 : decode cX7_rings 277 = .ok (.putfield 138, 3) := by decide +kernel
theorem dX7_rings_280 : decode cX7_rings 280 = .ok (.aload_n 0, 1) := by decide +kernel
theorem dX7_rings_281 : decode cX7_rings 281 = .ok (.getfield 145, 3) := by decide +kernel
theorem dX7_rings_284 : decode cX7_rings 284 = .ok (.ifCond .eq 11, 3) := by decide +kernel
theorem dX7_rings_287 : decode cX7_rings 287 = .ok (.bipush (-20), 2) := by decide +kernel
theorem dX7_rings_289 : decode cX7_rings 289 = .ok (.aload_n 0, 1) := by decide +kernel
theorem dX7_rings_290 : decode cX7_rings 290 = .ok (.getfield 142, 3) := by decide +kernel
theorem dX7_rings_293 : decode cX7_rings 293 = .ok (.isub, 1) := by decide +kernel
theorem dX7_rings_294 : decode cX7_rings 294 = .ok (.ireturn, 1) := by decide +kernel
theorem dX7_rings_295 : decode cX7_rings 295 = .ok (.iconst 1, 1) := by decide +kernel
theorem dX7_rings_296 : decode cX7_rings 296 = .ok (.istore 4, 2) := by decide +kernel
theorem dX7_rings_298 : decode cX7_rings 298 = .ok (.iload 4, 2) := by decide +kernel
theorem dX7_rings_300 : decode cX7_rings 300 = .ok (.bipush 7, 2) := by decide +kernel
theorem dX7_rings_302 : decode cX7_rings 302 = .ok (.if_icmp .ge 37, 3) := by decide +kernel
theorem dX7_rings_305 : decode cX7_rings 305 = .ok (.aload_n 0, 1) := by decide +kernel
theorem dX7_rings_306 : decode cX7_rings 306 = .ok (.getfield 13, 3) := by decide +kernel
theorem dX7_rings_309 : decode cX7_rings 309 = .ok (.iload 4, 2) := by decide +kernel
theorem dX7_rings_311 : decode cX7_rings 311 = .ok (.aload_n 0, 1) := by decide +kernel
theorem dX7_rings_312 : decode cX7_rings 312 = .ok (.getfield 31, 3) := by decide +kernel
theorem dX7_rings_315 : decode cX7_rings 315 = .ok (.iload 4, 2) := by decide +kernel
theorem dX7_rings_317 : decode cX7_rings 317 = .ok (.iaload, 1) := by decide +kernel
theorem dX7_rings_318 : decode cX7_rings 318 = .ok (.iastore, 1) := by decide +kernel
theorem dX7_rings_319 : decode cX7_rings 319 = .ok (.aload_n 0, 1) := by decide +kernel
theorem dX7_rings_320 : decode cX7_rings 320 = .ok (.getfield 16, 3) := by decide +kernel
theorem dX7_rings_323 : decode cX7_rings 323 = .ok (.iload 4, 2) := by decide +kernel
theorem dX7_rings_325 : decode cX7_rings 325 = .ok (.aload_n 0, 1) := by decide +kernel
theorem dX7_rings_326 : decode cX7_rings 326 = .ok (.getfield 34, 3) := by decide +kernel
theorem dX7_rings_329 : decode cX7_rings 329 = .ok (.iload 4, 2) := by decide +kernel
theorem dX7_rings_331 : decode cX7_rings 331 = .ok (.iaload, 1) := by decide +kernel
theorem dX7_rings_332 : decode cX7_rings 332 = .ok (.iastore, 1) := by decide +kernel
theorem dX7_rings_333 : decode cX7_rings 333 = .ok (.iinc 4 1, 3) := by decide +kernel
theorem dX7_rings_336 : decode cX7_rings 336 = .ok (.goto (-38), 3) := by decide +kernel
theorem dX7_rings_339 : decode cX7_rings 339 = .ok (.iload_n 1, 1) := by decide +kernel
theorem dX7_rings_340 : decode cX7_rings 340 = .ok (.ireturn, 1) := by decide +kernel
abbrev W_X7_rings (cyI cyJ cyO : ClassId) (h_o a_o_sets a_o_ringFar a_o_ringTone a_o_currents a_o_warmths a_o_depths a_o_tape a_o_readFar a_o_readTone a_o_readSea a_o_code a_o_cellAt a_o_courseAt a_o_paceAt a_o_turnsAt a_o_slowAt a_o_fuelAt a_o_ringAt a_o_pieceParts a_o_dragCell a_o_dragBy a_o_sums a_o_shares a_o_keptFar a_o_image a_o_lanes a_o_sizes a_o_items a_o_movedItems : Nat) (o_taped : Int32) (o_at : Int32) (o_wrong : Int32) (o_level : Int32) (o_noRings : Int32) (o_noTones : Int32) (o_noFuel : Int32) (o_pieces : Int32) (o_drags : Int32) (o_all : Int64) (o_noPieces : Int32) (o_noDrags : Int32) (o_kept : Int32) (o_ringFar : Nat → Int32) (o_ringTone : Nat → Int32) (o_tape : Nat → Int32) (o_readFar : Nat → Int32) (o_readTone : Nat → Int32) : va_W := [(h_o, .inr (7, [.ref a_o_sets, .ref a_o_ringFar, .ref a_o_ringTone, .ref a_o_currents, .ref a_o_warmths, .ref a_o_depths, .ref a_o_tape, .int o_taped, .int o_at, .int o_wrong, .ref a_o_readFar, .ref a_o_readTone, .ref a_o_readSea, .ref a_o_code, .ref a_o_cellAt, .ref a_o_courseAt, .ref a_o_paceAt, .ref a_o_turnsAt, .ref a_o_slowAt, .ref a_o_fuelAt, .ref a_o_ringAt, .int o_level, .int o_noRings, .int o_noTones, .int o_noFuel, .int o_pieces, .ref a_o_pieceParts, .int o_drags, .ref a_o_dragCell, .ref a_o_dragBy, .ref a_o_sums, .long o_all, .int o_noPieces, .int o_noDrags, .ref a_o_shares, .ref a_o_keptFar, .ref a_o_image, .int o_kept, .ref a_o_lanes, .ref a_o_sizes, .ref a_o_items, .ref a_o_movedItems])), (a_o_ringFar, .inl (cyI, 7, .inl o_ringFar)), (a_o_ringTone, .inl (cyI, 7, .inl o_ringTone)), (a_o_tape, .inl (cyI, 60, .inl o_tape)), (a_o_readFar, .inl (cyI, 7, .inl o_readFar)), (a_o_readTone, .inl (cyI, 7, .inl o_readTone))]
def f_X7_rings_L298b (k298 : Int32 → Int32 → Int32 → Int32 → Int32 → (Nat → Int32) → (Nat → Int32) → (Nat → Int32) → (Nat → Int32) → (Nat → Int32) → Option (Int32 × Int32 × Int32 × Int32 × (Nat → Int32) × (Nat → Int32) × (Nat → Int32) × (Nat → Int32))) (v1 : Int32) (v4 : Int32) (o_taped : Int32) (o_at : Int32) (o_wrong : Int32) (o_ringFar : Nat → Int32) (o_ringTone : Nat → Int32) (o_tape : Nat → Int32) (o_readFar : Nat → Int32) (o_readTone : Nat → Int32) : Option (Int32 × Int32 × Int32 × Int32 × (Nat → Int32) × (Nat → Int32) × (Nat → Int32) × (Nat → Int32)) :=
  if 7 ≤ v4 then
    some (v1, o_taped, o_at, o_wrong, o_ringFar, o_ringTone, o_readFar, o_readTone)
  else
    chk (¬ (v4 < 0 ∨ 7 ≤ v4.toNatClampNeg)) <|
    nm (o_readFar v4.toNatClampNeg) fun x_1 =>
    chk (¬ (v4 < 0 ∨ 7 ≤ v4.toNatClampNeg)) <|
    chk (¬ (v4 < 0 ∨ 7 ≤ v4.toNatClampNeg)) <|
    nm (o_readTone v4.toNatClampNeg) fun x_2 =>
    chk (¬ (v4 < 0 ∨ 7 ≤ v4.toNatClampNeg)) <|
    nm (v4 + 1) fun x_3 =>
    k298 v1 x_3 o_taped o_at o_wrong (upd o_ringFar v4.toNatClampNeg x_1) (upd o_ringTone v4.toNatClampNeg x_2) o_tape o_readFar o_readTone
def f_X7_rings_L298 : Nat → Int32 → Int32 → Int32 → Int32 → Int32 → (Nat → Int32) → (Nat → Int32) → (Nat → Int32) → (Nat → Int32) → (Nat → Int32) → Option (Int32 × Int32 × Int32 × Int32 × (Nat → Int32) × (Nat → Int32) × (Nat → Int32) × (Nat → Int32))
  | 0 => fun _ _ _ _ _ _ _ _ _ _ => none
  | n + 1 => f_X7_rings_L298b (f_X7_rings_L298 n)
def f_X7_rings_B272 (v1 : Int32) (y0 : Int32) (o_taped : Int32) (o_at : Int32) (o_wrong : Int32) (o_ringFar : Nat → Int32) (o_ringTone : Nat → Int32) (o_tape : Nat → Int32) (o_readFar : Nat → Int32) (o_readTone : Nat → Int32) : Option (Int32 × Int32 × Int32 × Int32 × (Nat → Int32) × (Nat → Int32) × (Nat → Int32) × (Nat → Int32)) :=
  chk (y0 = 0 ∨ y0 = 1) <|
  if y0 = 0 then
    f_X7_rings_L298 FU v1 1 0 o_at y0 o_ringFar o_ringTone o_tape o_readFar o_readTone
  else
    some ((-20) - o_at, 0, o_at, y0, o_ringFar, o_ringTone, o_readFar, o_readTone)
def f_X7_rings_B267 (v1 : Int32) (o_taped : Int32) (o_at : Int32) (o_wrong : Int32) (o_ringFar : Nat → Int32) (o_ringTone : Nat → Int32) (o_tape : Nat → Int32) (o_readFar : Nat → Int32) (o_readTone : Nat → Int32) : Option (Int32 × Int32 × Int32 × Int32 × (Nat → Int32) × (Nat → Int32) × (Nat → Int32) × (Nat → Int32)) :=
  f_X7_rings_B272 v1 1 o_taped o_at o_wrong o_ringFar o_ringTone o_tape o_readFar o_readTone
def f_X7_rings_B245 (k54 : Int32 → Int32 → Int32 → Int32 → Int32 → Int32 → (Nat → Int32) → (Nat → Int32) → (Nat → Int32) → (Nat → Int32) → (Nat → Int32) → Option (Int32 × Int32 × Int32 × Int32 × (Nat → Int32) × (Nat → Int32) × (Nat → Int32) × (Nat → Int32))) (v1 : Int32) (v2 : Int32) (v3 : Int32) (y0 : Int32) (y1 : Int32) (o_taped : Int32) (o_at : Int32) (o_wrong : Int32) (o_ringFar : Nat → Int32) (o_ringTone : Nat → Int32) (o_tape : Nat → Int32) (o_readFar : Nat → Int32) (o_readTone : Nat → Int32) : Option (Int32 × Int32 × Int32 × Int32 × (Nat → Int32) × (Nat → Int32) × (Nat → Int32) × (Nat → Int32)) :=
  nm (y1 + y0) fun x_4 =>
  k54 v1 v2 v3 o_taped x_4 o_wrong o_ringFar o_ringTone o_tape o_readFar o_readTone
def f_X7_rings_B230 (k54 : Int32 → Int32 → Int32 → Int32 → Int32 → Int32 → (Nat → Int32) → (Nat → Int32) → (Nat → Int32) → (Nat → Int32) → (Nat → Int32) → Option (Int32 × Int32 × Int32 × Int32 × (Nat → Int32) × (Nat → Int32) × (Nat → Int32) × (Nat → Int32))) (v1 : Int32) (v2 : Int32) (y0 : Int32) (o_taped : Int32) (o_at : Int32) (o_wrong : Int32) (o_ringFar : Nat → Int32) (o_ringTone : Nat → Int32) (o_tape : Nat → Int32) (o_readFar : Nat → Int32) (o_readTone : Nat → Int32) : Option (Int32 × Int32 × Int32 × Int32 × (Nat → Int32) × (Nat → Int32) × (Nat → Int32) × (Nat → Int32)) :=
  if y0 = 0 then
    f_X7_rings_B245 k54 v1 v2 y0 0 o_at o_taped o_at o_wrong o_ringFar o_ringTone o_tape o_readFar o_readTone
  else
    f_X7_rings_B245 k54 v1 v2 y0 1 o_at o_taped o_at o_wrong o_ringFar o_ringTone o_tape o_readFar o_readTone
def f_X7_rings_B229 (k54 : Int32 → Int32 → Int32 → Int32 → Int32 → Int32 → (Nat → Int32) → (Nat → Int32) → (Nat → Int32) → (Nat → Int32) → (Nat → Int32) → Option (Int32 × Int32 × Int32 × Int32 × (Nat → Int32) × (Nat → Int32) × (Nat → Int32) × (Nat → Int32))) (v1 : Int32) (v2 : Int32) (o_taped : Int32) (o_at : Int32) (o_wrong : Int32) (o_ringFar : Nat → Int32) (o_ringTone : Nat → Int32) (o_tape : Nat → Int32) (o_readFar : Nat → Int32) (o_readTone : Nat → Int32) : Option (Int32 × Int32 × Int32 × Int32 × (Nat → Int32) × (Nat → Int32) × (Nat → Int32) × (Nat → Int32)) :=
  f_X7_rings_B230 k54 v1 v2 0 o_taped o_at o_wrong o_ringFar o_ringTone o_tape o_readFar o_readTone
def f_X7_rings_B196 (k54 : Int32 → Int32 → Int32 → Int32 → Int32 → Int32 → (Nat → Int32) → (Nat → Int32) → (Nat → Int32) → (Nat → Int32) → (Nat → Int32) → Option (Int32 × Int32 × Int32 × Int32 × (Nat → Int32) × (Nat → Int32) × (Nat → Int32) × (Nat → Int32))) (v1 : Int32) (v2 : Int32) (y0 : Int32) (y1 : Int32) (o_taped : Int32) (o_at : Int32) (o_wrong : Int32) (o_ringFar : Nat → Int32) (o_ringTone : Nat → Int32) (o_tape : Nat → Int32) (o_readFar : Nat → Int32) (o_readTone : Nat → Int32) : Option (Int32 × Int32 × Int32 × Int32 × (Nat → Int32) × (Nat → Int32) × (Nat → Int32) × (Nat → Int32)) :=
  nm (y1 + y0) fun x_5 =>
  nm (v1 + 1) fun x_6 =>
  if o_wrong = 0 then
    if 6 ≤ x_6 then
      f_X7_rings_B229 k54 x_6 v2 o_taped x_5 o_wrong o_ringFar o_ringTone o_tape o_readFar o_readTone
    else
      bd2 (f_X7_here o_taped x_5 o_tape) fun r_7 w_8 =>
      if r_7 = 59 then
        f_X7_rings_B230 k54 x_6 v2 1 o_taped w_8 o_wrong o_ringFar o_ringTone o_tape o_readFar o_readTone
      else
        f_X7_rings_B229 k54 x_6 v2 o_taped w_8 o_wrong o_ringFar o_ringTone o_tape o_readFar o_readTone
  else
    f_X7_rings_B229 k54 x_6 v2 o_taped x_5 o_wrong o_ringFar o_ringTone o_tape o_readFar o_readTone
def f_X7_rings_B175 (k54 : Int32 → Int32 → Int32 → Int32 → Int32 → Int32 → (Nat → Int32) → (Nat → Int32) → (Nat → Int32) → (Nat → Int32) → (Nat → Int32) → Option (Int32 × Int32 × Int32 × Int32 × (Nat → Int32) × (Nat → Int32) × (Nat → Int32) × (Nat → Int32))) (v1 : Int32) (v2 : Int32) (v4 : Int32) (y0 : Int32) (y1 : Int32) (o_taped : Int32) (o_at : Int32) (o_wrong : Int32) (o_ringFar : Nat → Int32) (o_ringTone : Nat → Int32) (o_tape : Nat → Int32) (o_readFar : Nat → Int32) (o_readTone : Nat → Int32) : Option (Int32 × Int32 × Int32 × Int32 × (Nat → Int32) × (Nat → Int32) × (Nat → Int32) × (Nat → Int32)) :=
  chk (¬ (y1 < 0 ∨ 7 ≤ y1.toNatClampNeg)) <|
  chk (¬ (v4 < 0 ∨ 7 ≤ v4.toNatClampNeg)) <|
  if ((upd o_readTone y1.toNatClampNeg y0) v4.toNatClampNeg) ≤ 0 then
    f_X7_rings_B196 k54 v1 v2 0 o_at o_taped o_at o_wrong o_ringFar o_ringTone o_tape o_readFar (upd o_readTone y1.toNatClampNeg y0)
  else
    f_X7_rings_B196 k54 v1 v2 1 o_at o_taped o_at o_wrong o_ringFar o_ringTone o_tape o_readFar (upd o_readTone y1.toNatClampNeg y0)
def f_X7_rings_B144 (k54 : Int32 → Int32 → Int32 → Int32 → Int32 → Int32 → (Nat → Int32) → (Nat → Int32) → (Nat → Int32) → (Nat → Int32) → (Nat → Int32) → Option (Int32 × Int32 × Int32 × Int32 × (Nat → Int32) × (Nat → Int32) × (Nat → Int32) × (Nat → Int32))) (v1 : Int32) (v2 : Int32) (v4 : Int32) (y0 : Int32) (o_taped : Int32) (o_at : Int32) (o_wrong : Int32) (o_ringFar : Nat → Int32) (o_ringTone : Nat → Int32) (o_tape : Nat → Int32) (o_readFar : Nat → Int32) (o_readTone : Nat → Int32) : Option (Int32 × Int32 × Int32 × Int32 × (Nat → Int32) × (Nat → Int32) × (Nat → Int32) × (Nat → Int32)) :=
  if y0 = 43 then
    f_X7_rings_B175 k54 v1 v2 v4 2 v4 o_taped o_at o_wrong o_ringFar o_ringTone o_tape o_readFar o_readTone
  else
    if y0 = 45 then
      f_X7_rings_B175 k54 v1 v2 v4 1 v4 o_taped o_at o_wrong o_ringFar o_ringTone o_tape o_readFar o_readTone
    else
      f_X7_rings_B175 k54 v1 v2 v4 0 v4 o_taped o_at o_wrong o_ringFar o_ringTone o_tape o_readFar o_readTone
def f_X7_rings_B114 (k54 : Int32 → Int32 → Int32 → Int32 → Int32 → Int32 → (Nat → Int32) → (Nat → Int32) → (Nat → Int32) → (Nat → Int32) → (Nat → Int32) → Option (Int32 × Int32 × Int32 × Int32 × (Nat → Int32) × (Nat → Int32) × (Nat → Int32) × (Nat → Int32))) (v1 : Int32) (v2 : Int32) (v4 : Int32) (y0 : Int32) (y1 : Int32) (o_taped : Int32) (o_at : Int32) (o_wrong : Int32) (o_ringFar : Nat → Int32) (o_ringTone : Nat → Int32) (o_tape : Nat → Int32) (o_readFar : Nat → Int32) (o_readTone : Nat → Int32) : Option (Int32 × Int32 × Int32 × Int32 × (Nat → Int32) × (Nat → Int32) × (Nat → Int32) × (Nat → Int32)) :=
  nm (y1 + y0) fun x_9 =>
  bd3 (f_X7_number o_taped x_9 o_wrong o_tape) fun r_10 w_11 w_12 =>
  chk (¬ (v4 < 0 ∨ 7 ≤ v4.toNatClampNeg)) <|
  if w_12 = 0 then
    bd2 (f_X7_here o_taped w_11 o_tape) fun r_13 w_14 =>
    f_X7_rings_B144 k54 v1 v2 v4 r_13 o_taped w_14 w_12 o_ringFar o_ringTone o_tape (upd o_readFar v4.toNatClampNeg r_10) o_readTone
  else
    f_X7_rings_B144 k54 v1 v2 v4 0 o_taped w_11 w_12 o_ringFar o_ringTone o_tape (upd o_readFar v4.toNatClampNeg r_10) o_readTone
def f_X7_rings_B94 (k54 : Int32 → Int32 → Int32 → Int32 → Int32 → Int32 → (Nat → Int32) → (Nat → Int32) → (Nat → Int32) → (Nat → Int32) → (Nat → Int32) → Option (Int32 × Int32 × Int32 × Int32 × (Nat → Int32) × (Nat → Int32) × (Nat → Int32) × (Nat → Int32))) (v1 : Int32) (v2 : Int32) (v4 : Int32) (y0 : Int32) (o_taped : Int32) (o_at : Int32) (o_wrong : Int32) (o_ringFar : Nat → Int32) (o_ringTone : Nat → Int32) (o_tape : Nat → Int32) (o_readFar : Nat → Int32) (o_readTone : Nat → Int32) : Option (Int32 × Int32 × Int32 × Int32 × (Nat → Int32) × (Nat → Int32) × (Nat → Int32) × (Nat → Int32)) :=
  chk (y0 = 0 ∨ y0 = 1) <|
  if y0 = 0 then
    f_X7_rings_B114 k54 v1 v2 v4 1 o_at o_taped o_at y0 o_ringFar o_ringTone o_tape o_readFar o_readTone
  else
    f_X7_rings_B114 k54 v1 v2 v4 0 o_at o_taped o_at y0 o_ringFar o_ringTone o_tape o_readFar o_readTone
def f_X7_rings_B89 (k54 : Int32 → Int32 → Int32 → Int32 → Int32 → Int32 → (Nat → Int32) → (Nat → Int32) → (Nat → Int32) → (Nat → Int32) → (Nat → Int32) → Option (Int32 × Int32 × Int32 × Int32 × (Nat → Int32) × (Nat → Int32) × (Nat → Int32) × (Nat → Int32))) (v1 : Int32) (v2 : Int32) (v4 : Int32) (o_taped : Int32) (o_at : Int32) (o_wrong : Int32) (o_ringFar : Nat → Int32) (o_ringTone : Nat → Int32) (o_tape : Nat → Int32) (o_readFar : Nat → Int32) (o_readTone : Nat → Int32) : Option (Int32 × Int32 × Int32 × Int32 × (Nat → Int32) × (Nat → Int32) × (Nat → Int32) × (Nat → Int32)) :=
  f_X7_rings_B94 k54 v1 v2 v4 1 o_taped o_at o_wrong o_ringFar o_ringTone o_tape o_readFar o_readTone
def f_X7_rings_L54b (k54 : Int32 → Int32 → Int32 → Int32 → Int32 → Int32 → (Nat → Int32) → (Nat → Int32) → (Nat → Int32) → (Nat → Int32) → (Nat → Int32) → Option (Int32 × Int32 × Int32 × Int32 × (Nat → Int32) × (Nat → Int32) × (Nat → Int32) × (Nat → Int32))) (v1 : Int32) (v2 : Int32) (v3 : Int32) (o_taped : Int32) (o_at : Int32) (o_wrong : Int32) (o_ringFar : Nat → Int32) (o_ringTone : Nat → Int32) (o_tape : Nat → Int32) (o_readFar : Nat → Int32) (o_readTone : Nat → Int32) : Option (Int32 × Int32 × Int32 × Int32 × (Nat → Int32) × (Nat → Int32) × (Nat → Int32) × (Nat → Int32)) :=
  if v3 = 0 then
    if o_wrong = 0 then
      bd2 (f_X7_here o_taped o_at o_tape) fun r_15 w_16 =>
      if r_15 = 0 then
        f_X7_rings_B272 v1 0 o_taped w_16 o_wrong o_ringFar o_ringTone o_tape o_readFar o_readTone
      else
        f_X7_rings_B267 v1 o_taped w_16 o_wrong o_ringFar o_ringTone o_tape o_readFar o_readTone
    else
      f_X7_rings_B267 v1 o_taped o_at o_wrong o_ringFar o_ringTone o_tape o_readFar o_readTone
  else
    bd3 (f_X7_digit (v2 + 1) 6 o_taped o_at o_wrong o_tape) fun r_17 w_18 w_19 =>
    if w_19 = 0 then
      bd2 (f_X7_here o_taped w_18 o_tape) fun r_20 w_21 =>
      if r_20 = 58 then
        f_X7_rings_B94 k54 v1 r_17 r_17 0 o_taped w_21 w_19 o_ringFar o_ringTone o_tape o_readFar o_readTone
      else
        f_X7_rings_B89 k54 v1 r_17 r_17 o_taped w_21 w_19 o_ringFar o_ringTone o_tape o_readFar o_readTone
    else
      f_X7_rings_B89 k54 v1 r_17 r_17 o_taped w_18 w_19 o_ringFar o_ringTone o_tape o_readFar o_readTone
def f_X7_rings_L54 : Nat → Int32 → Int32 → Int32 → Int32 → Int32 → Int32 → (Nat → Int32) → (Nat → Int32) → (Nat → Int32) → (Nat → Int32) → (Nat → Int32) → Option (Int32 × Int32 × Int32 × Int32 × (Nat → Int32) × (Nat → Int32) × (Nat → Int32) × (Nat → Int32))
  | 0 => fun _ _ _ _ _ _ _ _ _ _ _ => none
  | n + 1 => f_X7_rings_L54b (f_X7_rings_L54 n)
def f_X7_rings_L2b (k2 : Int32 → Int32 → Int32 → Int32 → (Nat → Int32) → (Nat → Int32) → (Nat → Int32) → (Nat → Int32) → (Nat → Int32) → Option (Int32 × Int32 × Int32 × Int32 × (Nat → Int32) × (Nat → Int32) × (Nat → Int32) × (Nat → Int32))) (v1 : Int32) (o_taped : Int32) (o_at : Int32) (o_wrong : Int32) (o_ringFar : Nat → Int32) (o_ringTone : Nat → Int32) (o_tape : Nat → Int32) (o_readFar : Nat → Int32) (o_readTone : Nat → Int32) : Option (Int32 × Int32 × Int32 × Int32 × (Nat → Int32) × (Nat → Int32) × (Nat → Int32) × (Nat → Int32)) :=
  if 7 ≤ v1 then
    f_X7_rings_L54 FU 0 0 1 o_taped 0 0 o_ringFar o_ringTone o_tape o_readFar o_readTone
  else
    chk (¬ (v1 < 0 ∨ 7 ≤ v1.toNatClampNeg)) <|
    nm (o_ringFar v1.toNatClampNeg) fun x_22 =>
    chk (¬ (v1 < 0 ∨ 7 ≤ v1.toNatClampNeg)) <|
    chk (¬ (v1 < 0 ∨ 7 ≤ v1.toNatClampNeg)) <|
    nm (o_ringTone v1.toNatClampNeg) fun x_23 =>
    chk (¬ (v1 < 0 ∨ 7 ≤ v1.toNatClampNeg)) <|
    nm (v1 + 1) fun x_24 =>
    k2 x_24 o_taped o_at o_wrong o_ringFar o_ringTone o_tape (upd o_readFar v1.toNatClampNeg x_22) (upd o_readTone v1.toNatClampNeg x_23)
def f_X7_rings_L2 : Nat → Int32 → Int32 → Int32 → Int32 → (Nat → Int32) → (Nat → Int32) → (Nat → Int32) → (Nat → Int32) → (Nat → Int32) → Option (Int32 × Int32 × Int32 × Int32 × (Nat → Int32) × (Nat → Int32) × (Nat → Int32) × (Nat → Int32))
  | 0 => fun _ _ _ _ _ _ _ _ _ => none
  | n + 1 => f_X7_rings_L2b (f_X7_rings_L2 n)
def f_X7_rings (o_taped : Int32) (o_at : Int32) (o_wrong : Int32) (o_ringFar : Nat → Int32) (o_ringTone : Nat → Int32) (o_tape : Nat → Int32) (o_readFar : Nat → Int32) (o_readTone : Nat → Int32) : Option (Int32 × Int32 × Int32 × Int32 × (Nat → Int32) × (Nat → Int32) × (Nat → Int32) × (Nat → Int32)) :=
  f_X7_rings_L2 FU 0 o_taped o_at o_wrong o_ringFar o_ringTone o_tape o_readFar o_readTone
abbrev rm_X7_rings : Room := { frames := 2, cells := 0, slots := 0, locals := 48 }
set_option maxRecDepth 100000 in
set_option maxHeartbeats 4000000 in
theorem c_X7_rings (l : Launch) (dC : Nat → ClassId) (dI : Nat → Nat → Nat) (cyI cyJ cyO : ClassId) (sz : Nat) (h_o a_o_sets a_o_ringFar a_o_ringTone a_o_currents a_o_warmths a_o_depths a_o_tape a_o_readFar a_o_readTone a_o_readSea a_o_code a_o_cellAt a_o_courseAt a_o_paceAt a_o_turnsAt a_o_slowAt a_o_fuelAt a_o_ringAt a_o_pieceParts a_o_dragCell a_o_dragBy a_o_sums a_o_shares a_o_keptFar a_o_image a_o_lanes a_o_sizes a_o_items a_o_movedItems : Nat) (o_taped : Int32) (o_at : Int32) (o_wrong : Int32) (o_level : Int32) (o_noRings : Int32) (o_noTones : Int32) (o_noFuel : Int32) (o_pieces : Int32) (o_drags : Int32) (o_all : Int64) (o_noPieces : Int32) (o_noDrags : Int32) (o_kept : Int32) (o_ringFar : Nat → Int32) (o_ringTone : Nat → Int32) (o_tape : Nat → Int32) (o_readFar : Nat → Int32) (o_readTone : Nat → Int32) (post : (Int32 × Int32 × Int32 × Int32 × (Nat → Int32) × (Nat → Int32) × (Nat → Int32) × (Nat → Int32)) → Prop) (hf : okP (f_X7_rings o_taped o_at o_wrong o_ringFar o_ringTone o_tape o_readFar o_readTone) post) : Ci l (dC, dI) (tyL cyI cyJ cyO) yX7_rings wsX7_rings rm_X7_rings [.ref h_o] sz (W_X7_rings cyI cyJ cyO h_o a_o_sets a_o_ringFar a_o_ringTone a_o_currents a_o_warmths a_o_depths a_o_tape a_o_readFar a_o_readTone a_o_readSea a_o_code a_o_cellAt a_o_courseAt a_o_paceAt a_o_turnsAt a_o_slowAt a_o_fuelAt a_o_ringAt a_o_pieceParts a_o_dragCell a_o_dragBy a_o_sums a_o_shares a_o_keptFar a_o_image a_o_lanes a_o_sizes a_o_items a_o_movedItems o_taped o_at o_wrong o_level o_noRings o_noTones o_noFuel o_pieces o_drags o_all o_noPieces o_noDrags o_kept o_ringFar o_ringTone o_tape o_readFar o_readTone) zN (fun r u => post (r, u)) (fun u => (W_X7_rings cyI cyJ cyO h_o a_o_sets a_o_ringFar a_o_ringTone a_o_currents a_o_warmths a_o_depths a_o_tape a_o_readFar a_o_readTone a_o_readSea a_o_code a_o_cellAt a_o_courseAt a_o_paceAt a_o_turnsAt a_o_slowAt a_o_fuelAt a_o_ringAt a_o_pieceParts a_o_dragCell a_o_dragBy a_o_sums a_o_shares a_o_keptFar a_o_image a_o_lanes a_o_sizes a_o_items a_o_movedItems u.1 u.2.1 u.2.2.1 o_level o_noRings o_noTones o_noFuel o_pieces o_drags o_all o_noPieces o_noDrags o_kept u.2.2.2.1 u.2.2.2.2.1 o_tape u.2.2.2.2.2.1 u.2.2.2.2.2.2)) := by
  refine Met.ofW (cc := cX7_rings) (maxL := 6) (ret := (some .int)) (by decide) rfl ?_
  intro p e s m args below meth c s₁ B hml hv
  obtain ⟨rfl, hsz, hP, hK, hD0, hZ⟩ := hv
  have hx := B.exec
  have hb := B.bytes
  have hr := B.returns
  have hts := atoms_spec (ws := wsX7_rings) B.pre
  have hown : s.vm.findClass RX7 = some m.cls := findClass_of_methodNamed B.named
  have hlocks := B.notSynchronized
  subst hsz
  have hD := hD0.self (sz := s.heap.size)
  generalize hAe : va_A (W_X7_rings cyI cyJ cyO h_o a_o_sets a_o_ringFar a_o_ringTone a_o_currents a_o_warmths a_o_depths a_o_tape a_o_readFar a_o_readTone a_o_readSea a_o_code a_o_cellAt a_o_courseAt a_o_paceAt a_o_turnsAt a_o_slowAt a_o_fuelAt a_o_ringAt a_o_pieceParts a_o_dragCell a_o_dragBy a_o_sums a_o_shares a_o_keptFar a_o_image a_o_lanes a_o_sizes a_o_items a_o_movedItems o_taped o_at o_wrong o_level o_noRings o_noTones o_noFuel o_pieces o_drags o_all o_noPieces o_noDrags o_kept o_ringFar o_ringTone o_tape o_readFar o_readTone) s.heap.size = A at hD hZ ⊢
  have hA : ∀ q : Nat, s.heap.size ≤ q → A q := fun q h => by rw [← hAe]; exact Or.inr h
  clear hAe hD0
  have hS : va_S A s.heap s.heap [] := va_S.rf
  have hl := lv_entry ([.ref h_o]) (n := 6) (Nat.le_of_ble_eq_true rfl)
  rw [lg_entry_eq]
  generalize (lg_sl ([.ref h_o]) ++ List.replicate (6 - (lg_sl ([.ref h_o])).length) Slot.unset).toArray = ls at hl ⊢
  have hl : lv_has ls 6 [(0, .ref h_o)] := hl
  refine kW (fun Q hQ => ?_)
  have hq0 := hts _ (List.mem_cons_of_mem _ q_707)
  have hi7 : ∀ w ∈ u_ws RX7 TX7 42, w ∈ wsX7_rings := fun w h => List.mem_cons_of_mem _ (inX7 w h)
  have hq2 := hts _ (List.mem_cons_of_mem _ q_716)
  have hq3 := hts _ (List.mem_cons_of_mem _ q_708)
  have hq4 := hts _ (List.mem_cons_of_mem _ q_717)
  have hq5 := hts _ (List.mem_cons_of_mem _ q_715)
  have hq6 := hts _ (List.mem_cons_of_mem _ q_713)
  have hq7 := hts _ (List.mem_cons_of_mem _ q_714)
  have hw := hf
  have w298 : ∀ (n : Nat), ∀ (v1 : Int32) (v4 : Int32) (o_taped : Int32) (o_at : Int32) (o_wrong : Int32) (o_ringFar : Nat → Int32) (o_ringTone : Nat → Int32) (o_readFar : Nat → Int32) (o_readTone : Nat → Int32) (H : Heap) (locs : List Loc), va_P (dC, dI) vwCl (W_X7_rings cyI cyJ cyO h_o a_o_sets a_o_ringFar a_o_ringTone a_o_currents a_o_warmths a_o_depths a_o_tape a_o_readFar a_o_readTone a_o_readSea a_o_code a_o_cellAt a_o_courseAt a_o_paceAt a_o_turnsAt a_o_slowAt a_o_fuelAt a_o_ringAt a_o_pieceParts a_o_dragCell a_o_dragBy a_o_sums a_o_shares a_o_keptFar a_o_image a_o_lanes a_o_sizes a_o_items a_o_movedItems o_taped o_at o_wrong o_level o_noRings o_noTones o_noFuel o_pieces o_drags o_all o_noPieces o_noDrags o_kept o_ringFar o_ringTone o_tape o_readFar o_readTone) H → va_D A (W_X7_rings cyI cyJ cyO h_o a_o_sets a_o_ringFar a_o_ringTone a_o_currents a_o_warmths a_o_depths a_o_tape a_o_readFar a_o_readTone a_o_readSea a_o_code a_o_cellAt a_o_courseAt a_o_paceAt a_o_turnsAt a_o_slowAt a_o_fuelAt a_o_ringAt a_o_pieceParts a_o_dragCell a_o_dragBy a_o_sums a_o_shares a_o_keptFar a_o_image a_o_lanes a_o_sizes a_o_items a_o_movedItems o_taped o_at o_wrong o_level o_noRings o_noTones o_noFuel o_pieces o_drags o_all o_noPieces o_noDrags o_kept o_ringFar o_ringTone o_tape o_readFar o_readTone) → va_S A s.heap H locs → ∀ (ls : Array Slot), lv_has ls 6 [(0, .ref h_o), (1, .int v1), (4, .int v4)] → okP (f_X7_rings_L298 n v1 v4 o_taped o_at o_wrong o_ringFar o_ringTone o_tape o_readFar o_readTone) post → W p l e (headSpec wsX7_rings rm_X7_rings).room s m ([.ref h_o] : List Value).toArray below meth c H locs 0 0 Q (F0 m 298 ls []) := by
    intro n
    induction n with
    | zero =>
      intro v1 v4 o_taped o_at o_wrong o_ringFar o_ringTone o_readFar o_readTone H locs hP hD hS ls hl hw
      exact (ok0 hw).elim
    | succ n298 ih298 =>
      intro v1 v4 o_taped o_at o_wrong o_ringFar o_ringTone o_readFar o_readTone H locs hP hD hS ls hl hw
      replace hw : okP (f_X7_rings_L298b (f_X7_rings_L298 n298) v1 v4 o_taped o_at o_wrong o_ringFar o_ringTone o_tape o_readFar o_readTone) post := hw
      unfold f_X7_rings_L298b at hw
      refine lv_iload hx hb dX7_rings_298 (lv_at hl 2 rfl) ?_
      refine lv_bipush (v := 7) hx hb dX7_rings_300 (by decide) ?_
      refine lv_icmp_ge (tgt := 339) hx hb dX7_rings_302 (by decide) (fun c_1 => ?_) (fun c_1 => ?_)
      · replace hw := okT hw c_1
        clear c_1
        refine lv_iload_n hx hb dX7_rings_339 rfl (lv_at hl 1 rfl) ?_
        rw [hQ]
        exact W.iret (v := v1) hx hb hr (fun t ht hW => ⟨⟨v1, (o_taped, o_at, o_wrong, o_ringFar, o_ringTone, o_readFar, o_readTone), rfl, okS hw, by rw [ht]; exact hP, va_K.moved hW.alike hK, hD⟩, hS.F ht⟩) hS.2.2 dX7_rings_340
      · replace hw := okF hw c_1
        clear c_1
        refine lv_aload_n hx hb dX7_rings_305 rfl (lv_at hl 0 rfl) ?_
        refine va_get (D := (dC, dI)) (ci := 7) (v := .ref a_o_ringFar) (C := RX7) (T := TX7) (N := 42) hx hb hts hi7 hown hK hP 0 rfl rfl 1 (by decide) hq0 (fun _ h9 => h9) rfl dX7_rings_306 ?_
        refine lv_iload hx hb dX7_rings_309 (lv_at hl 2 rfl) ?_
        refine lv_aload_n hx hb dX7_rings_311 rfl (lv_at hl 0 rfl) ?_
        refine va_get (D := (dC, dI)) (ci := 7) (v := .ref a_o_readFar) (C := RX7) (T := TX7) (N := 42) hx hb hts hi7 hown hK hP 0 rfl rfl 10 (by decide) hq2 (fun _ h9 => h9) rfl dX7_rings_312 ?_
        refine lv_iload hx hb dX7_rings_315 (lv_at hl 2 rfl) ?_
        obtain ⟨h_2, hw⟩ := okC hw
        refine va_iald (i := v4) hx hb hK hP 4 0 rfl rfl h_2 dX7_rings_317 ?_
        refine lv_topi (fun x_3 ex_3 => ?_)
        replace hw := okN ex_3 hw
        clear ex_3
        obtain ⟨h_4, hw⟩ := okC hw
        refine va_iast (i := v4) (x := x_3) hx hb hK hP hD hS 1 0 rfl rfl h_4 dX7_rings_318 (fun H locs hP hD hS => ?_)
        have hP : va_P (dC, dI) vwCl (W_X7_rings cyI cyJ cyO h_o a_o_sets a_o_ringFar a_o_ringTone a_o_currents a_o_warmths a_o_depths a_o_tape a_o_readFar a_o_readTone a_o_readSea a_o_code a_o_cellAt a_o_courseAt a_o_paceAt a_o_turnsAt a_o_slowAt a_o_fuelAt a_o_ringAt a_o_pieceParts a_o_dragCell a_o_dragBy a_o_sums a_o_shares a_o_keptFar a_o_image a_o_lanes a_o_sizes a_o_items a_o_movedItems o_taped o_at o_wrong o_level o_noRings o_noTones o_noFuel o_pieces o_drags o_all o_noPieces o_noDrags o_kept (upd o_ringFar v4.toNatClampNeg x_3) o_ringTone o_tape o_readFar o_readTone) H := hP
        have hD : va_D A (W_X7_rings cyI cyJ cyO h_o a_o_sets a_o_ringFar a_o_ringTone a_o_currents a_o_warmths a_o_depths a_o_tape a_o_readFar a_o_readTone a_o_readSea a_o_code a_o_cellAt a_o_courseAt a_o_paceAt a_o_turnsAt a_o_slowAt a_o_fuelAt a_o_ringAt a_o_pieceParts a_o_dragCell a_o_dragBy a_o_sums a_o_shares a_o_keptFar a_o_image a_o_lanes a_o_sizes a_o_items a_o_movedItems o_taped o_at o_wrong o_level o_noRings o_noTones o_noFuel o_pieces o_drags o_all o_noPieces o_noDrags o_kept (upd o_ringFar v4.toNatClampNeg x_3) o_ringTone o_tape o_readFar o_readTone) := hD
        refine lv_aload_n hx hb dX7_rings_319 rfl (lv_at hl 0 rfl) ?_
        refine va_get (D := (dC, dI)) (ci := 7) (v := .ref a_o_ringTone) (C := RX7) (T := TX7) (N := 42) hx hb hts hi7 hown hK hP 0 rfl rfl 2 (by decide) hq3 (fun _ h9 => h9) rfl dX7_rings_320 ?_
        refine lv_iload hx hb dX7_rings_323 (lv_at hl 2 rfl) ?_
        refine lv_aload_n hx hb dX7_rings_325 rfl (lv_at hl 0 rfl) ?_
        refine va_get (D := (dC, dI)) (ci := 7) (v := .ref a_o_readTone) (C := RX7) (T := TX7) (N := 42) hx hb hts hi7 hown hK hP 0 rfl rfl 11 (by decide) hq4 (fun _ h9 => h9) rfl dX7_rings_326 ?_
        refine lv_iload hx hb dX7_rings_329 (lv_at hl 2 rfl) ?_
        obtain ⟨h_5, hw⟩ := okC hw
        refine va_iald (i := v4) hx hb hK hP 5 0 rfl rfl h_5 dX7_rings_331 ?_
        refine lv_topi (fun x_6 ex_6 => ?_)
        replace hw := okN ex_6 hw
        clear ex_6
        obtain ⟨h_7, hw⟩ := okC hw
        refine va_iast (i := v4) (x := x_6) hx hb hK hP hD hS 2 0 rfl rfl h_7 dX7_rings_332 (fun H locs hP hD hS => ?_)
        have hP : va_P (dC, dI) vwCl (W_X7_rings cyI cyJ cyO h_o a_o_sets a_o_ringFar a_o_ringTone a_o_currents a_o_warmths a_o_depths a_o_tape a_o_readFar a_o_readTone a_o_readSea a_o_code a_o_cellAt a_o_courseAt a_o_paceAt a_o_turnsAt a_o_slowAt a_o_fuelAt a_o_ringAt a_o_pieceParts a_o_dragCell a_o_dragBy a_o_sums a_o_shares a_o_keptFar a_o_image a_o_lanes a_o_sizes a_o_items a_o_movedItems o_taped o_at o_wrong o_level o_noRings o_noTones o_noFuel o_pieces o_drags o_all o_noPieces o_noDrags o_kept (upd o_ringFar v4.toNatClampNeg x_3) (upd o_ringTone v4.toNatClampNeg x_6) o_tape o_readFar o_readTone) H := hP
        have hD : va_D A (W_X7_rings cyI cyJ cyO h_o a_o_sets a_o_ringFar a_o_ringTone a_o_currents a_o_warmths a_o_depths a_o_tape a_o_readFar a_o_readTone a_o_readSea a_o_code a_o_cellAt a_o_courseAt a_o_paceAt a_o_turnsAt a_o_slowAt a_o_fuelAt a_o_ringAt a_o_pieceParts a_o_dragCell a_o_dragBy a_o_sums a_o_shares a_o_keptFar a_o_image a_o_lanes a_o_sizes a_o_items a_o_movedItems o_taped o_at o_wrong o_level o_noRings o_noTones o_noFuel o_pieces o_drags o_all o_noPieces o_noDrags o_kept (upd o_ringFar v4.toNatClampNeg x_3) (upd o_ringTone v4.toNatClampNeg x_6) o_tape o_readFar o_readTone) := hD
        obtain ⟨x_8, ex_8⟩ : ∃ y : Int32, y = v4 + 1 := ⟨_, rfl⟩
        replace hw := okN ex_8 hw
        refine lv_iinc (v := x_8) (lv' := [(4, .int x_8), (0, .ref h_o), (1, .int v1)]) hx hb dX7_rings_333 hl (k := 2) rfl (by rw [ex_8]; rfl) (by decide) rfl (fun ls hl => ?_)
        clear ex_8
        refine lv_goto (tgt := 298) hx hb dX7_rings_336 (by decide) ?_
        exact ih298 v1 x_8 o_taped o_at o_wrong (upd o_ringFar v4.toNatClampNeg x_3) (upd o_ringTone v4.toNatClampNeg x_6) o_readFar o_readTone _ _ hP hD hS _ (lv_sub hl [1, 2, 0] rfl) hw
  have w272 : ∀ (v1 : Int32) (y0 : Int32) (o_taped : Int32) (o_at : Int32) (o_wrong : Int32) (o_ringFar : Nat → Int32) (o_ringTone : Nat → Int32) (o_readFar : Nat → Int32) (o_readTone : Nat → Int32) (H : Heap) (locs : List Loc), va_P (dC, dI) vwCl (W_X7_rings cyI cyJ cyO h_o a_o_sets a_o_ringFar a_o_ringTone a_o_currents a_o_warmths a_o_depths a_o_tape a_o_readFar a_o_readTone a_o_readSea a_o_code a_o_cellAt a_o_courseAt a_o_paceAt a_o_turnsAt a_o_slowAt a_o_fuelAt a_o_ringAt a_o_pieceParts a_o_dragCell a_o_dragBy a_o_sums a_o_shares a_o_keptFar a_o_image a_o_lanes a_o_sizes a_o_items a_o_movedItems o_taped o_at o_wrong o_level o_noRings o_noTones o_noFuel o_pieces o_drags o_all o_noPieces o_noDrags o_kept o_ringFar o_ringTone o_tape o_readFar o_readTone) H → va_D A (W_X7_rings cyI cyJ cyO h_o a_o_sets a_o_ringFar a_o_ringTone a_o_currents a_o_warmths a_o_depths a_o_tape a_o_readFar a_o_readTone a_o_readSea a_o_code a_o_cellAt a_o_courseAt a_o_paceAt a_o_turnsAt a_o_slowAt a_o_fuelAt a_o_ringAt a_o_pieceParts a_o_dragCell a_o_dragBy a_o_sums a_o_shares a_o_keptFar a_o_image a_o_lanes a_o_sizes a_o_items a_o_movedItems o_taped o_at o_wrong o_level o_noRings o_noTones o_noFuel o_pieces o_drags o_all o_noPieces o_noDrags o_kept o_ringFar o_ringTone o_tape o_readFar o_readTone) → va_S A s.heap H locs → ∀ (ls : Array Slot), lv_has ls 6 [(0, .ref h_o), (1, .int v1)] → okP (f_X7_rings_B272 v1 y0 o_taped o_at o_wrong o_ringFar o_ringTone o_tape o_readFar o_readTone) post → W p l e (headSpec wsX7_rings rm_X7_rings).room s m ([.ref h_o] : List Value).toArray below meth c H locs 0 0 Q (F0 m 272 ls [.int y0, .ref h_o]) := by
    intro v1 y0 o_taped o_at o_wrong o_ringFar o_ringTone o_readFar o_readTone H locs hP hD hS ls hl hw
    unfold f_X7_rings_B272 at hw
    obtain ⟨h_9, hw⟩ := okC hw
    refine va_put (D := (dC, dI)) (ci := 7) (v := .int y0) (ty := .boolean) (C := RX7) (T := TX7) (N := 42) hx hb hts hi7 tyX7 tyX7_ok nmX7 hown hK hP hD hS 0 rfl rfl 9 (by decide) hq5 (fun _ h9 => h9) rfl (by decide +kernel) (nbZ h_9) (ftZ h_9) (Nat.le_of_ble_eq_true rfl) dX7_rings_272 (fun H locs hP hD hS => ?_)
    have hP : va_P (dC, dI) vwCl (W_X7_rings cyI cyJ cyO h_o a_o_sets a_o_ringFar a_o_ringTone a_o_currents a_o_warmths a_o_depths a_o_tape a_o_readFar a_o_readTone a_o_readSea a_o_code a_o_cellAt a_o_courseAt a_o_paceAt a_o_turnsAt a_o_slowAt a_o_fuelAt a_o_ringAt a_o_pieceParts a_o_dragCell a_o_dragBy a_o_sums a_o_shares a_o_keptFar a_o_image a_o_lanes a_o_sizes a_o_items a_o_movedItems o_taped o_at y0 o_level o_noRings o_noTones o_noFuel o_pieces o_drags o_all o_noPieces o_noDrags o_kept o_ringFar o_ringTone o_tape o_readFar o_readTone) H := hP
    have hD : va_D A (W_X7_rings cyI cyJ cyO h_o a_o_sets a_o_ringFar a_o_ringTone a_o_currents a_o_warmths a_o_depths a_o_tape a_o_readFar a_o_readTone a_o_readSea a_o_code a_o_cellAt a_o_courseAt a_o_paceAt a_o_turnsAt a_o_slowAt a_o_fuelAt a_o_ringAt a_o_pieceParts a_o_dragCell a_o_dragBy a_o_sums a_o_shares a_o_keptFar a_o_image a_o_lanes a_o_sizes a_o_items a_o_movedItems o_taped o_at y0 o_level o_noRings o_noTones o_noFuel o_pieces o_drags o_all o_noPieces o_noDrags o_kept o_ringFar o_ringTone o_tape o_readFar o_readTone) := hD
    refine lv_aload_n hx hb dX7_rings_275 rfl (lv_at hl 0 rfl) ?_
    refine lv_iconst (v := 0) hx hb dX7_rings_276 (by decide) ?_
    refine va_put (D := (dC, dI)) (ci := 7) (v := .int 0) (ty := .int) (C := RX7) (T := TX7) (N := 42) hx hb hts hi7 tyX7 tyX7_ok nmX7 hown hK hP hD hS 0 rfl rfl 7 (by decide) hq6 (fun _ h9 => h9) rfl (by decide +kernel) rfl rfl (Nat.le_of_ble_eq_true rfl) dX7_rings_277 (fun H locs hP hD hS => ?_)
    have hP : va_P (dC, dI) vwCl (W_X7_rings cyI cyJ cyO h_o a_o_sets a_o_ringFar a_o_ringTone a_o_currents a_o_warmths a_o_depths a_o_tape a_o_readFar a_o_readTone a_o_readSea a_o_code a_o_cellAt a_o_courseAt a_o_paceAt a_o_turnsAt a_o_slowAt a_o_fuelAt a_o_ringAt a_o_pieceParts a_o_dragCell a_o_dragBy a_o_sums a_o_shares a_o_keptFar a_o_image a_o_lanes a_o_sizes a_o_items a_o_movedItems 0 o_at y0 o_level o_noRings o_noTones o_noFuel o_pieces o_drags o_all o_noPieces o_noDrags o_kept o_ringFar o_ringTone o_tape o_readFar o_readTone) H := hP
    have hD : va_D A (W_X7_rings cyI cyJ cyO h_o a_o_sets a_o_ringFar a_o_ringTone a_o_currents a_o_warmths a_o_depths a_o_tape a_o_readFar a_o_readTone a_o_readSea a_o_code a_o_cellAt a_o_courseAt a_o_paceAt a_o_turnsAt a_o_slowAt a_o_fuelAt a_o_ringAt a_o_pieceParts a_o_dragCell a_o_dragBy a_o_sums a_o_shares a_o_keptFar a_o_image a_o_lanes a_o_sizes a_o_items a_o_movedItems 0 o_at y0 o_level o_noRings o_noTones o_noFuel o_pieces o_drags o_all o_noPieces o_noDrags o_kept o_ringFar o_ringTone o_tape o_readFar o_readTone) := hD
    refine lv_aload_n hx hb dX7_rings_280 rfl (lv_at hl 0 rfl) ?_
    refine va_get (D := (dC, dI)) (ci := 7) (v := .int y0) (C := RX7) (T := TX7) (N := 42) hx hb hts hi7 hown hK hP 0 rfl rfl 9 (by decide) hq5 (fun _ h9 => h9) rfl dX7_rings_281 ?_
    refine lv_if_eq (tgt := 295) hx hb dX7_rings_284 (by decide) (fun c_10 => ?_) (fun c_10 => ?_)
    · replace hw := okT hw c_10
      clear c_10
      refine lv_iconst (v := 1) hx hb dX7_rings_295 (by decide) ?_
      refine lv_istore (lv' := [(4, .int 1), (0, .ref h_o), (1, .int v1)]) hx hb dX7_rings_296 hl (by decide) rfl (fun ls hl => ?_)
      exact w298 FU v1 1 0 o_at y0 o_ringFar o_ringTone o_readFar o_readTone _ _ hP hD hS _ (lv_sub hl [1, 2, 0] rfl) hw
    · replace hw := okF hw c_10
      clear c_10
      refine lv_bipush (v := (-20)) hx hb dX7_rings_287 (by decide) ?_
      refine lv_aload_n hx hb dX7_rings_289 rfl (lv_at hl 0 rfl) ?_
      refine va_get (D := (dC, dI)) (ci := 7) (v := .int o_at) (C := RX7) (T := TX7) (N := 42) hx hb hts hi7 hown hK hP 0 rfl rfl 8 (by decide) hq7 (fun _ h9 => h9) rfl dX7_rings_290 ?_
      refine lv_isub hx hb dX7_rings_293 ?_
      rw [hQ]
      exact W.iret (v := (-20) - o_at) hx hb hr (fun t ht hW => ⟨⟨(-20) - o_at, (0, o_at, y0, o_ringFar, o_ringTone, o_readFar, o_readTone), rfl, okS hw, by rw [ht]; exact hP, va_K.moved hW.alike hK, hD⟩, hS.F ht⟩) hS.2.2 dX7_rings_294
  have w267 : ∀ (v1 : Int32) (o_taped : Int32) (o_at : Int32) (o_wrong : Int32) (o_ringFar : Nat → Int32) (o_ringTone : Nat → Int32) (o_readFar : Nat → Int32) (o_readTone : Nat → Int32) (H : Heap) (locs : List Loc), va_P (dC, dI) vwCl (W_X7_rings cyI cyJ cyO h_o a_o_sets a_o_ringFar a_o_ringTone a_o_currents a_o_warmths a_o_depths a_o_tape a_o_readFar a_o_readTone a_o_readSea a_o_code a_o_cellAt a_o_courseAt a_o_paceAt a_o_turnsAt a_o_slowAt a_o_fuelAt a_o_ringAt a_o_pieceParts a_o_dragCell a_o_dragBy a_o_sums a_o_shares a_o_keptFar a_o_image a_o_lanes a_o_sizes a_o_items a_o_movedItems o_taped o_at o_wrong o_level o_noRings o_noTones o_noFuel o_pieces o_drags o_all o_noPieces o_noDrags o_kept o_ringFar o_ringTone o_tape o_readFar o_readTone) H → va_D A (W_X7_rings cyI cyJ cyO h_o a_o_sets a_o_ringFar a_o_ringTone a_o_currents a_o_warmths a_o_depths a_o_tape a_o_readFar a_o_readTone a_o_readSea a_o_code a_o_cellAt a_o_courseAt a_o_paceAt a_o_turnsAt a_o_slowAt a_o_fuelAt a_o_ringAt a_o_pieceParts a_o_dragCell a_o_dragBy a_o_sums a_o_shares a_o_keptFar a_o_image a_o_lanes a_o_sizes a_o_items a_o_movedItems o_taped o_at o_wrong o_level o_noRings o_noTones o_noFuel o_pieces o_drags o_all o_noPieces o_noDrags o_kept o_ringFar o_ringTone o_tape o_readFar o_readTone) → va_S A s.heap H locs → ∀ (ls : Array Slot), lv_has ls 6 [(0, .ref h_o), (1, .int v1)] → okP (f_X7_rings_B267 v1 o_taped o_at o_wrong o_ringFar o_ringTone o_tape o_readFar o_readTone) post → W p l e (headSpec wsX7_rings rm_X7_rings).room s m ([.ref h_o] : List Value).toArray below meth c H locs 0 0 Q (F0 m 267 ls [.ref h_o]) := by
    intro v1 o_taped o_at o_wrong o_ringFar o_ringTone o_readFar o_readTone H locs hP hD hS ls hl hw
    unfold f_X7_rings_B267 at hw
    refine lv_iconst (v := 1) hx hb dX7_rings_267 (by decide) ?_
    refine lv_goto (tgt := 272) hx hb dX7_rings_268 (by decide) ?_
    exact w272 v1 1 o_taped o_at o_wrong o_ringFar o_ringTone o_readFar o_readTone _ _ hP hD hS _ (lv_sub hl [0, 1] rfl) hw
  have w54 : ∀ (n : Nat), ∀ (v1 : Int32) (v2 : Int32) (v3 : Int32) (o_taped : Int32) (o_at : Int32) (o_wrong : Int32) (o_ringFar : Nat → Int32) (o_ringTone : Nat → Int32) (o_readFar : Nat → Int32) (o_readTone : Nat → Int32) (H : Heap) (locs : List Loc), va_P (dC, dI) vwCl (W_X7_rings cyI cyJ cyO h_o a_o_sets a_o_ringFar a_o_ringTone a_o_currents a_o_warmths a_o_depths a_o_tape a_o_readFar a_o_readTone a_o_readSea a_o_code a_o_cellAt a_o_courseAt a_o_paceAt a_o_turnsAt a_o_slowAt a_o_fuelAt a_o_ringAt a_o_pieceParts a_o_dragCell a_o_dragBy a_o_sums a_o_shares a_o_keptFar a_o_image a_o_lanes a_o_sizes a_o_items a_o_movedItems o_taped o_at o_wrong o_level o_noRings o_noTones o_noFuel o_pieces o_drags o_all o_noPieces o_noDrags o_kept o_ringFar o_ringTone o_tape o_readFar o_readTone) H → va_D A (W_X7_rings cyI cyJ cyO h_o a_o_sets a_o_ringFar a_o_ringTone a_o_currents a_o_warmths a_o_depths a_o_tape a_o_readFar a_o_readTone a_o_readSea a_o_code a_o_cellAt a_o_courseAt a_o_paceAt a_o_turnsAt a_o_slowAt a_o_fuelAt a_o_ringAt a_o_pieceParts a_o_dragCell a_o_dragBy a_o_sums a_o_shares a_o_keptFar a_o_image a_o_lanes a_o_sizes a_o_items a_o_movedItems o_taped o_at o_wrong o_level o_noRings o_noTones o_noFuel o_pieces o_drags o_all o_noPieces o_noDrags o_kept o_ringFar o_ringTone o_tape o_readFar o_readTone) → va_S A s.heap H locs → ∀ (ls : Array Slot), lv_has ls 6 [(0, .ref h_o), (1, .int v1), (2, .int v2), (3, .int v3)] → okP (f_X7_rings_L54 n v1 v2 v3 o_taped o_at o_wrong o_ringFar o_ringTone o_tape o_readFar o_readTone) post → W p l e (headSpec wsX7_rings rm_X7_rings).room s m ([.ref h_o] : List Value).toArray below meth c H locs 0 0 Q (F0 m 54 ls []) := by
    intro n
    induction n with
    | zero =>
      intro v1 v2 v3 o_taped o_at o_wrong o_ringFar o_ringTone o_readFar o_readTone H locs hP hD hS ls hl hw
      exact (ok0 hw).elim
    | succ n54 ih54 =>
      have w245 : ∀ (v1 : Int32) (v2 : Int32) (v3 : Int32) (y0 : Int32) (y1 : Int32) (o_taped : Int32) (o_at : Int32) (o_wrong : Int32) (o_ringFar : Nat → Int32) (o_ringTone : Nat → Int32) (o_readFar : Nat → Int32) (o_readTone : Nat → Int32) (H : Heap) (locs : List Loc), va_P (dC, dI) vwCl (W_X7_rings cyI cyJ cyO h_o a_o_sets a_o_ringFar a_o_ringTone a_o_currents a_o_warmths a_o_depths a_o_tape a_o_readFar a_o_readTone a_o_readSea a_o_code a_o_cellAt a_o_courseAt a_o_paceAt a_o_turnsAt a_o_slowAt a_o_fuelAt a_o_ringAt a_o_pieceParts a_o_dragCell a_o_dragBy a_o_sums a_o_shares a_o_keptFar a_o_image a_o_lanes a_o_sizes a_o_items a_o_movedItems o_taped o_at o_wrong o_level o_noRings o_noTones o_noFuel o_pieces o_drags o_all o_noPieces o_noDrags o_kept o_ringFar o_ringTone o_tape o_readFar o_readTone) H → va_D A (W_X7_rings cyI cyJ cyO h_o a_o_sets a_o_ringFar a_o_ringTone a_o_currents a_o_warmths a_o_depths a_o_tape a_o_readFar a_o_readTone a_o_readSea a_o_code a_o_cellAt a_o_courseAt a_o_paceAt a_o_turnsAt a_o_slowAt a_o_fuelAt a_o_ringAt a_o_pieceParts a_o_dragCell a_o_dragBy a_o_sums a_o_shares a_o_keptFar a_o_image a_o_lanes a_o_sizes a_o_items a_o_movedItems o_taped o_at o_wrong o_level o_noRings o_noTones o_noFuel o_pieces o_drags o_all o_noPieces o_noDrags o_kept o_ringFar o_ringTone o_tape o_readFar o_readTone) → va_S A s.heap H locs → ∀ (ls : Array Slot), lv_has ls 6 [(0, .ref h_o), (1, .int v1), (2, .int v2), (3, .int v3)] → okP (f_X7_rings_B245 (f_X7_rings_L54 n54) v1 v2 v3 y0 y1 o_taped o_at o_wrong o_ringFar o_ringTone o_tape o_readFar o_readTone) post → W p l e (headSpec wsX7_rings rm_X7_rings).room s m ([.ref h_o] : List Value).toArray below meth c H locs 0 0 Q (F0 m 245 ls [.int y0, .int y1, .ref h_o]) := by
        intro v1 v2 v3 y0 y1 o_taped o_at o_wrong o_ringFar o_ringTone o_readFar o_readTone H locs hP hD hS ls hl hw
        unfold f_X7_rings_B245 at hw
        refine lv_iadd hx hb dX7_rings_245 ?_
        refine lv_topi (fun x_11 ex_11 => ?_)
        replace hw := okN ex_11 hw
        clear ex_11
        refine va_put (D := (dC, dI)) (ci := 7) (v := .int x_11) (ty := .int) (C := RX7) (T := TX7) (N := 42) hx hb hts hi7 tyX7 tyX7_ok nmX7 hown hK hP hD hS 0 rfl rfl 8 (by decide) hq7 (fun _ h9 => h9) rfl (by decide +kernel) rfl rfl (Nat.le_of_ble_eq_true rfl) dX7_rings_246 (fun H locs hP hD hS => ?_)
        have hP : va_P (dC, dI) vwCl (W_X7_rings cyI cyJ cyO h_o a_o_sets a_o_ringFar a_o_ringTone a_o_currents a_o_warmths a_o_depths a_o_tape a_o_readFar a_o_readTone a_o_readSea a_o_code a_o_cellAt a_o_courseAt a_o_paceAt a_o_turnsAt a_o_slowAt a_o_fuelAt a_o_ringAt a_o_pieceParts a_o_dragCell a_o_dragBy a_o_sums a_o_shares a_o_keptFar a_o_image a_o_lanes a_o_sizes a_o_items a_o_movedItems o_taped x_11 o_wrong o_level o_noRings o_noTones o_noFuel o_pieces o_drags o_all o_noPieces o_noDrags o_kept o_ringFar o_ringTone o_tape o_readFar o_readTone) H := hP
        have hD : va_D A (W_X7_rings cyI cyJ cyO h_o a_o_sets a_o_ringFar a_o_ringTone a_o_currents a_o_warmths a_o_depths a_o_tape a_o_readFar a_o_readTone a_o_readSea a_o_code a_o_cellAt a_o_courseAt a_o_paceAt a_o_turnsAt a_o_slowAt a_o_fuelAt a_o_ringAt a_o_pieceParts a_o_dragCell a_o_dragBy a_o_sums a_o_shares a_o_keptFar a_o_image a_o_lanes a_o_sizes a_o_items a_o_movedItems o_taped x_11 o_wrong o_level o_noRings o_noTones o_noFuel o_pieces o_drags o_all o_noPieces o_noDrags o_kept o_ringFar o_ringTone o_tape o_readFar o_readTone) := hD
        refine lv_goto (tgt := 54) hx hb dX7_rings_249 (by decide) ?_
        exact ih54 v1 v2 v3 o_taped x_11 o_wrong o_ringFar o_ringTone o_readFar o_readTone _ _ hP hD hS _ (lv_sub hl [0, 1, 2, 3] rfl) hw
      have w230 : ∀ (v1 : Int32) (v2 : Int32) (y0 : Int32) (o_taped : Int32) (o_at : Int32) (o_wrong : Int32) (o_ringFar : Nat → Int32) (o_ringTone : Nat → Int32) (o_readFar : Nat → Int32) (o_readTone : Nat → Int32) (H : Heap) (locs : List Loc), va_P (dC, dI) vwCl (W_X7_rings cyI cyJ cyO h_o a_o_sets a_o_ringFar a_o_ringTone a_o_currents a_o_warmths a_o_depths a_o_tape a_o_readFar a_o_readTone a_o_readSea a_o_code a_o_cellAt a_o_courseAt a_o_paceAt a_o_turnsAt a_o_slowAt a_o_fuelAt a_o_ringAt a_o_pieceParts a_o_dragCell a_o_dragBy a_o_sums a_o_shares a_o_keptFar a_o_image a_o_lanes a_o_sizes a_o_items a_o_movedItems o_taped o_at o_wrong o_level o_noRings o_noTones o_noFuel o_pieces o_drags o_all o_noPieces o_noDrags o_kept o_ringFar o_ringTone o_tape o_readFar o_readTone) H → va_D A (W_X7_rings cyI cyJ cyO h_o a_o_sets a_o_ringFar a_o_ringTone a_o_currents a_o_warmths a_o_depths a_o_tape a_o_readFar a_o_readTone a_o_readSea a_o_code a_o_cellAt a_o_courseAt a_o_paceAt a_o_turnsAt a_o_slowAt a_o_fuelAt a_o_ringAt a_o_pieceParts a_o_dragCell a_o_dragBy a_o_sums a_o_shares a_o_keptFar a_o_image a_o_lanes a_o_sizes a_o_items a_o_movedItems o_taped o_at o_wrong o_level o_noRings o_noTones o_noFuel o_pieces o_drags o_all o_noPieces o_noDrags o_kept o_ringFar o_ringTone o_tape o_readFar o_readTone) → va_S A s.heap H locs → ∀ (ls : Array Slot), lv_has ls 6 [(0, .ref h_o), (1, .int v1), (2, .int v2)] → okP (f_X7_rings_B230 (f_X7_rings_L54 n54) v1 v2 y0 o_taped o_at o_wrong o_ringFar o_ringTone o_tape o_readFar o_readTone) post → W p l e (headSpec wsX7_rings rm_X7_rings).room s m ([.ref h_o] : List Value).toArray below meth c H locs 0 0 Q (F0 m 230 ls [.int y0]) := by
        intro v1 v2 y0 o_taped o_at o_wrong o_ringFar o_ringTone o_readFar o_readTone H locs hP hD hS ls hl hw
        unfold f_X7_rings_B230 at hw
        refine lv_istore_n (lv' := [(3, .int y0), (0, .ref h_o), (1, .int v1), (2, .int v2)]) hx hb dX7_rings_230 rfl hl (by decide) rfl (fun ls hl => ?_)
        refine lv_aload_n hx hb dX7_rings_231 rfl (lv_at hl 1 rfl) ?_
        refine lv_dup hx hb dX7_rings_232 rfl ?_
        refine va_get (D := (dC, dI)) (ci := 7) (v := .int o_at) (C := RX7) (T := TX7) (N := 42) hx hb hts hi7 hown hK hP 0 rfl rfl 8 (by decide) hq7 (fun _ h9 => h9) rfl dX7_rings_233 ?_
        refine lv_iload_n hx hb dX7_rings_236 rfl (lv_at hl 0 rfl) ?_
        refine lv_if_eq (tgt := 244) hx hb dX7_rings_237 (by decide) (fun c_12 => ?_) (fun c_12 => ?_)
        · replace hw := okT hw c_12
          clear c_12
          refine lv_iconst (v := 0) hx hb dX7_rings_244 (by decide) ?_
          exact w245 v1 v2 y0 0 o_at o_taped o_at o_wrong o_ringFar o_ringTone o_readFar o_readTone _ _ hP hD hS _ (lv_sub hl [1, 2, 3, 0] rfl) hw
        · replace hw := okF hw c_12
          clear c_12
          refine lv_iconst (v := 1) hx hb dX7_rings_240 (by decide) ?_
          refine lv_goto (tgt := 245) hx hb dX7_rings_241 (by decide) ?_
          exact w245 v1 v2 y0 1 o_at o_taped o_at o_wrong o_ringFar o_ringTone o_readFar o_readTone _ _ hP hD hS _ (lv_sub hl [1, 2, 3, 0] rfl) hw
      have w229 : ∀ (v1 : Int32) (v2 : Int32) (o_taped : Int32) (o_at : Int32) (o_wrong : Int32) (o_ringFar : Nat → Int32) (o_ringTone : Nat → Int32) (o_readFar : Nat → Int32) (o_readTone : Nat → Int32) (H : Heap) (locs : List Loc), va_P (dC, dI) vwCl (W_X7_rings cyI cyJ cyO h_o a_o_sets a_o_ringFar a_o_ringTone a_o_currents a_o_warmths a_o_depths a_o_tape a_o_readFar a_o_readTone a_o_readSea a_o_code a_o_cellAt a_o_courseAt a_o_paceAt a_o_turnsAt a_o_slowAt a_o_fuelAt a_o_ringAt a_o_pieceParts a_o_dragCell a_o_dragBy a_o_sums a_o_shares a_o_keptFar a_o_image a_o_lanes a_o_sizes a_o_items a_o_movedItems o_taped o_at o_wrong o_level o_noRings o_noTones o_noFuel o_pieces o_drags o_all o_noPieces o_noDrags o_kept o_ringFar o_ringTone o_tape o_readFar o_readTone) H → va_D A (W_X7_rings cyI cyJ cyO h_o a_o_sets a_o_ringFar a_o_ringTone a_o_currents a_o_warmths a_o_depths a_o_tape a_o_readFar a_o_readTone a_o_readSea a_o_code a_o_cellAt a_o_courseAt a_o_paceAt a_o_turnsAt a_o_slowAt a_o_fuelAt a_o_ringAt a_o_pieceParts a_o_dragCell a_o_dragBy a_o_sums a_o_shares a_o_keptFar a_o_image a_o_lanes a_o_sizes a_o_items a_o_movedItems o_taped o_at o_wrong o_level o_noRings o_noTones o_noFuel o_pieces o_drags o_all o_noPieces o_noDrags o_kept o_ringFar o_ringTone o_tape o_readFar o_readTone) → va_S A s.heap H locs → ∀ (ls : Array Slot), lv_has ls 6 [(0, .ref h_o), (1, .int v1), (2, .int v2)] → okP (f_X7_rings_B229 (f_X7_rings_L54 n54) v1 v2 o_taped o_at o_wrong o_ringFar o_ringTone o_tape o_readFar o_readTone) post → W p l e (headSpec wsX7_rings rm_X7_rings).room s m ([.ref h_o] : List Value).toArray below meth c H locs 0 0 Q (F0 m 229 ls []) := by
        intro v1 v2 o_taped o_at o_wrong o_ringFar o_ringTone o_readFar o_readTone H locs hP hD hS ls hl hw
        unfold f_X7_rings_B229 at hw
        refine lv_iconst (v := 0) hx hb dX7_rings_229 (by decide) ?_
        exact w230 v1 v2 0 o_taped o_at o_wrong o_ringFar o_ringTone o_readFar o_readTone _ _ hP hD hS _ (lv_sub hl [0, 1, 2] rfl) hw
      have w196 : ∀ (v1 : Int32) (v2 : Int32) (y0 : Int32) (y1 : Int32) (o_taped : Int32) (o_at : Int32) (o_wrong : Int32) (o_ringFar : Nat → Int32) (o_ringTone : Nat → Int32) (o_readFar : Nat → Int32) (o_readTone : Nat → Int32) (H : Heap) (locs : List Loc), va_P (dC, dI) vwCl (W_X7_rings cyI cyJ cyO h_o a_o_sets a_o_ringFar a_o_ringTone a_o_currents a_o_warmths a_o_depths a_o_tape a_o_readFar a_o_readTone a_o_readSea a_o_code a_o_cellAt a_o_courseAt a_o_paceAt a_o_turnsAt a_o_slowAt a_o_fuelAt a_o_ringAt a_o_pieceParts a_o_dragCell a_o_dragBy a_o_sums a_o_shares a_o_keptFar a_o_image a_o_lanes a_o_sizes a_o_items a_o_movedItems o_taped o_at o_wrong o_level o_noRings o_noTones o_noFuel o_pieces o_drags o_all o_noPieces o_noDrags o_kept o_ringFar o_ringTone o_tape o_readFar o_readTone) H → va_D A (W_X7_rings cyI cyJ cyO h_o a_o_sets a_o_ringFar a_o_ringTone a_o_currents a_o_warmths a_o_depths a_o_tape a_o_readFar a_o_readTone a_o_readSea a_o_code a_o_cellAt a_o_courseAt a_o_paceAt a_o_turnsAt a_o_slowAt a_o_fuelAt a_o_ringAt a_o_pieceParts a_o_dragCell a_o_dragBy a_o_sums a_o_shares a_o_keptFar a_o_image a_o_lanes a_o_sizes a_o_items a_o_movedItems o_taped o_at o_wrong o_level o_noRings o_noTones o_noFuel o_pieces o_drags o_all o_noPieces o_noDrags o_kept o_ringFar o_ringTone o_tape o_readFar o_readTone) → va_S A s.heap H locs → ∀ (ls : Array Slot), lv_has ls 6 [(0, .ref h_o), (1, .int v1), (2, .int v2)] → okP (f_X7_rings_B196 (f_X7_rings_L54 n54) v1 v2 y0 y1 o_taped o_at o_wrong o_ringFar o_ringTone o_tape o_readFar o_readTone) post → W p l e (headSpec wsX7_rings rm_X7_rings).room s m ([.ref h_o] : List Value).toArray below meth c H locs 0 0 Q (F0 m 196 ls [.int y0, .int y1, .ref h_o]) := by
        intro v1 v2 y0 y1 o_taped o_at o_wrong o_ringFar o_ringTone o_readFar o_readTone H locs hP hD hS ls hl hw
        unfold f_X7_rings_B196 at hw
        refine lv_iadd hx hb dX7_rings_196 ?_
        refine lv_topi (fun x_13 ex_13 => ?_)
        replace hw := okN ex_13 hw
        clear ex_13
        refine va_put (D := (dC, dI)) (ci := 7) (v := .int x_13) (ty := .int) (C := RX7) (T := TX7) (N := 42) hx hb hts hi7 tyX7 tyX7_ok nmX7 hown hK hP hD hS 0 rfl rfl 8 (by decide) hq7 (fun _ h9 => h9) rfl (by decide +kernel) rfl rfl (Nat.le_of_ble_eq_true rfl) dX7_rings_197 (fun H locs hP hD hS => ?_)
        have hP : va_P (dC, dI) vwCl (W_X7_rings cyI cyJ cyO h_o a_o_sets a_o_ringFar a_o_ringTone a_o_currents a_o_warmths a_o_depths a_o_tape a_o_readFar a_o_readTone a_o_readSea a_o_code a_o_cellAt a_o_courseAt a_o_paceAt a_o_turnsAt a_o_slowAt a_o_fuelAt a_o_ringAt a_o_pieceParts a_o_dragCell a_o_dragBy a_o_sums a_o_shares a_o_keptFar a_o_image a_o_lanes a_o_sizes a_o_items a_o_movedItems o_taped x_13 o_wrong o_level o_noRings o_noTones o_noFuel o_pieces o_drags o_all o_noPieces o_noDrags o_kept o_ringFar o_ringTone o_tape o_readFar o_readTone) H := hP
        have hD : va_D A (W_X7_rings cyI cyJ cyO h_o a_o_sets a_o_ringFar a_o_ringTone a_o_currents a_o_warmths a_o_depths a_o_tape a_o_readFar a_o_readTone a_o_readSea a_o_code a_o_cellAt a_o_courseAt a_o_paceAt a_o_turnsAt a_o_slowAt a_o_fuelAt a_o_ringAt a_o_pieceParts a_o_dragCell a_o_dragBy a_o_sums a_o_shares a_o_keptFar a_o_image a_o_lanes a_o_sizes a_o_items a_o_movedItems o_taped x_13 o_wrong o_level o_noRings o_noTones o_noFuel o_pieces o_drags o_all o_noPieces o_noDrags o_kept o_ringFar o_ringTone o_tape o_readFar o_readTone) := hD
        obtain ⟨x_14, ex_14⟩ : ∃ y : Int32, y = v1 + 1 := ⟨_, rfl⟩
        replace hw := okN ex_14 hw
        refine lv_iinc (v := x_14) (lv' := [(1, .int x_14), (0, .ref h_o), (2, .int v2)]) hx hb dX7_rings_200 hl (k := 1) rfl (by rw [ex_14]; rfl) (by decide) rfl (fun ls hl => ?_)
        clear ex_14
        refine lv_aload_n hx hb dX7_rings_203 rfl (lv_at hl 1 rfl) ?_
        refine va_get (D := (dC, dI)) (ci := 7) (v := .int o_wrong) (C := RX7) (T := TX7) (N := 42) hx hb hts hi7 hown hK hP 0 rfl rfl 9 (by decide) hq5 (fun _ h9 => h9) rfl dX7_rings_204 ?_
        refine lv_if_ne (tgt := 229) hx hb dX7_rings_207 (by decide) (fun c_15 => ?_) (fun c_15 => ?_)
        · replace hw := okF hw c_15
          clear c_15
          exact w229 x_14 v2 o_taped x_13 o_wrong o_ringFar o_ringTone o_readFar o_readTone _ _ hP hD hS _ (lv_sub hl [1, 0, 2] rfl) hw
        · replace hw := okT hw c_15
          clear c_15
          refine lv_iload_n hx hb dX7_rings_210 rfl (lv_at hl 0 rfl) ?_
          refine lv_bipush (v := 6) hx hb dX7_rings_211 (by decide) ?_
          refine lv_icmp_ge (tgt := 229) hx hb dX7_rings_213 (by decide) (fun c_16 => ?_) (fun c_16 => ?_)
          · replace hw := okT hw c_16
            clear c_16
            exact w229 x_14 v2 o_taped x_13 o_wrong o_ringFar o_ringTone o_readFar o_readTone _ _ hP hD hS _ (lv_sub hl [1, 0, 2] rfl) hw
          · replace hw := okF hw c_16
            clear c_16
            refine lv_aload_n hx hb dX7_rings_216 rfl (lv_at hl 1 rfl) ?_
            have hPc := hP.sub (ws' := (W_X7_here cyI cyJ cyO h_o a_o_sets a_o_ringFar a_o_ringTone a_o_currents a_o_warmths a_o_depths a_o_tape a_o_readFar a_o_readTone a_o_readSea a_o_code a_o_cellAt a_o_courseAt a_o_paceAt a_o_turnsAt a_o_slowAt a_o_fuelAt a_o_ringAt a_o_pieceParts a_o_dragCell a_o_dragBy a_o_sums a_o_shares a_o_keptFar a_o_image a_o_lanes a_o_sizes a_o_items a_o_movedItems o_taped x_13 o_wrong o_level o_noRings o_noTones o_noFuel o_pieces o_drags o_all o_noPieces o_noDrags o_kept o_tape)) [0, 3] rfl
            have hDc := hD.sub (ws' := (W_X7_here cyI cyJ cyO h_o a_o_sets a_o_ringFar a_o_ringTone a_o_currents a_o_warmths a_o_depths a_o_tape a_o_readFar a_o_readTone a_o_readSea a_o_code a_o_cellAt a_o_courseAt a_o_paceAt a_o_turnsAt a_o_slowAt a_o_fuelAt a_o_ringAt a_o_pieceParts a_o_dragCell a_o_dragBy a_o_sums a_o_shares a_o_keptFar a_o_image a_o_lanes a_o_sizes a_o_items a_o_movedItems o_taped x_13 o_wrong o_level o_noRings o_noTones o_noFuel o_pieces o_drags o_all o_noPieces o_noDrags o_kept o_tape)) [0, 3] (by decide +kernel) rfl
            have hFc := va_free (wc := (W_X7_here cyI cyJ cyO h_o a_o_sets a_o_ringFar a_o_ringTone a_o_currents a_o_warmths a_o_depths a_o_tape a_o_readFar a_o_readTone a_o_readSea a_o_code a_o_cellAt a_o_courseAt a_o_paceAt a_o_turnsAt a_o_slowAt a_o_fuelAt a_o_ringAt a_o_pieceParts a_o_dragCell a_o_dragBy a_o_sums a_o_shares a_o_keptFar a_o_image a_o_lanes a_o_sizes a_o_items a_o_movedItems o_taped x_13 o_wrong o_level o_noRings o_noTones o_noFuel o_pieces o_drags o_all o_noPieces o_noDrags o_kept o_tape)) hD hS hA [0, 3] rfl
            refine kc_i (wr := [(a_o_ringFar, .inl (cyI, 7, .inl o_ringFar)), (a_o_ringTone, .inl (cyI, 7, .inl o_ringTone)), (a_o_readFar, .inl (cyI, 7, .inl o_readFar)), (a_o_readTone, .inl (cyI, 7, .inl o_readTone))]) (va_runV (As := []) (rest := []) ⟨hx, hb, hml, hown, hts⟩ (c_X7_here l dC dI cyI cyJ cyO H.size h_o a_o_sets a_o_ringFar a_o_ringTone a_o_currents a_o_warmths a_o_depths a_o_tape a_o_readFar a_o_readTone a_o_readSea a_o_code a_o_cellAt a_o_courseAt a_o_paceAt a_o_turnsAt a_o_slowAt a_o_fuelAt a_o_ringAt a_o_pieceParts a_o_dragCell a_o_dragBy a_o_sums a_o_shares a_o_keptFar a_o_image a_o_lanes a_o_sizes a_o_items a_o_movedItems o_taped x_13 o_wrong o_level o_noRings o_noTones o_noFuel o_pieces o_drags o_all o_noPieces o_noDrags o_kept o_tape _ (okb2 hw)) (cwV 0 hts (gdV (fun w h => List.mem_cons_of_mem _ h) q_877 q_879 qs_26 q_8 q_880) rfl rfl rfl (by decide +kernel) ⟨Nat.le_of_ble_eq_true rfl, Nat.le_of_ble_eq_true rfl⟩) ⟨(kpre zN_ok hK hPc hDc trivial hS hFc).1, va_recv hK hP (ci := 7) (q0 := 0) rfl rfl, (kpre zN_ok hK hPc hDc trivial hS hFc).2⟩ rfl rfl hl.1 rfl (lv_room (Nat.le_of_ble_eq_true rfl)) dX7_rings_217 ⟨Nat.le_of_ble_eq_true rfl, Nat.le_of_ble_eq_true rfl⟩) hP hD hS hFc [0, 3] [1, 2, 4, 5] rfl rfl (by decide +kernel) (by decide +kernel) (fun r_17 w_18 H locs hw hP hD hS => ?_)
            try dsimp only at hw
            have hP : va_P (dC, dI) vwCl (W_X7_rings cyI cyJ cyO h_o a_o_sets a_o_ringFar a_o_ringTone a_o_currents a_o_warmths a_o_depths a_o_tape a_o_readFar a_o_readTone a_o_readSea a_o_code a_o_cellAt a_o_courseAt a_o_paceAt a_o_turnsAt a_o_slowAt a_o_fuelAt a_o_ringAt a_o_pieceParts a_o_dragCell a_o_dragBy a_o_sums a_o_shares a_o_keptFar a_o_image a_o_lanes a_o_sizes a_o_items a_o_movedItems o_taped w_18 o_wrong o_level o_noRings o_noTones o_noFuel o_pieces o_drags o_all o_noPieces o_noDrags o_kept o_ringFar o_ringTone o_tape o_readFar o_readTone) H := hP.sub [4, 0, 1, 5, 2, 3] rfl
            have hD : va_D A (W_X7_rings cyI cyJ cyO h_o a_o_sets a_o_ringFar a_o_ringTone a_o_currents a_o_warmths a_o_depths a_o_tape a_o_readFar a_o_readTone a_o_readSea a_o_code a_o_cellAt a_o_courseAt a_o_paceAt a_o_turnsAt a_o_slowAt a_o_fuelAt a_o_ringAt a_o_pieceParts a_o_dragCell a_o_dragBy a_o_sums a_o_shares a_o_keptFar a_o_image a_o_lanes a_o_sizes a_o_items a_o_movedItems o_taped w_18 o_wrong o_level o_noRings o_noTones o_noFuel o_pieces o_drags o_all o_noPieces o_noDrags o_kept o_ringFar o_ringTone o_tape o_readFar o_readTone) := hD.sub [4, 0, 1, 5, 2, 3] (by decide +kernel) rfl
            clear hPc hDc hFc
            refine lv_bipush (v := 59) hx hb dX7_rings_220 (by decide) ?_
            refine lv_icmp_ne (tgt := 229) hx hb dX7_rings_222 (by decide) (fun c_19 => ?_) (fun c_19 => ?_)
            · replace hw := okF hw c_19
              clear c_19
              exact w229 x_14 v2 o_taped w_18 o_wrong o_ringFar o_ringTone o_readFar o_readTone _ _ hP hD hS _ (lv_sub hl [1, 0, 2] rfl) hw
            · replace hw := okT hw c_19
              clear c_19
              refine lv_iconst (v := 1) hx hb dX7_rings_225 (by decide) ?_
              refine lv_goto (tgt := 230) hx hb dX7_rings_226 (by decide) ?_
              exact w230 x_14 v2 1 o_taped w_18 o_wrong o_ringFar o_ringTone o_readFar o_readTone _ _ hP hD hS _ (lv_sub hl [1, 0, 2] rfl) hw
      have w175 : ∀ (v1 : Int32) (v2 : Int32) (v4 : Int32) (y0 : Int32) (y1 : Int32) (o_taped : Int32) (o_at : Int32) (o_wrong : Int32) (o_ringFar : Nat → Int32) (o_ringTone : Nat → Int32) (o_readFar : Nat → Int32) (o_readTone : Nat → Int32) (H : Heap) (locs : List Loc), va_P (dC, dI) vwCl (W_X7_rings cyI cyJ cyO h_o a_o_sets a_o_ringFar a_o_ringTone a_o_currents a_o_warmths a_o_depths a_o_tape a_o_readFar a_o_readTone a_o_readSea a_o_code a_o_cellAt a_o_courseAt a_o_paceAt a_o_turnsAt a_o_slowAt a_o_fuelAt a_o_ringAt a_o_pieceParts a_o_dragCell a_o_dragBy a_o_sums a_o_shares a_o_keptFar a_o_image a_o_lanes a_o_sizes a_o_items a_o_movedItems o_taped o_at o_wrong o_level o_noRings o_noTones o_noFuel o_pieces o_drags o_all o_noPieces o_noDrags o_kept o_ringFar o_ringTone o_tape o_readFar o_readTone) H → va_D A (W_X7_rings cyI cyJ cyO h_o a_o_sets a_o_ringFar a_o_ringTone a_o_currents a_o_warmths a_o_depths a_o_tape a_o_readFar a_o_readTone a_o_readSea a_o_code a_o_cellAt a_o_courseAt a_o_paceAt a_o_turnsAt a_o_slowAt a_o_fuelAt a_o_ringAt a_o_pieceParts a_o_dragCell a_o_dragBy a_o_sums a_o_shares a_o_keptFar a_o_image a_o_lanes a_o_sizes a_o_items a_o_movedItems o_taped o_at o_wrong o_level o_noRings o_noTones o_noFuel o_pieces o_drags o_all o_noPieces o_noDrags o_kept o_ringFar o_ringTone o_tape o_readFar o_readTone) → va_S A s.heap H locs → ∀ (ls : Array Slot), lv_has ls 6 [(0, .ref h_o), (1, .int v1), (2, .int v2), (4, .int v4)] → okP (f_X7_rings_B175 (f_X7_rings_L54 n54) v1 v2 v4 y0 y1 o_taped o_at o_wrong o_ringFar o_ringTone o_tape o_readFar o_readTone) post → W p l e (headSpec wsX7_rings rm_X7_rings).room s m ([.ref h_o] : List Value).toArray below meth c H locs 0 0 Q (F0 m 175 ls [.int y0, .int y1, .ref a_o_readTone]) := by
        intro v1 v2 v4 y0 y1 o_taped o_at o_wrong o_ringFar o_ringTone o_readFar o_readTone H locs hP hD hS ls hl hw
        unfold f_X7_rings_B175 at hw
        obtain ⟨h_20, hw⟩ := okC hw
        refine va_iast (i := y1) (x := y0) hx hb hK hP hD hS 5 0 rfl rfl h_20 dX7_rings_175 (fun H locs hP hD hS => ?_)
        have hP : va_P (dC, dI) vwCl (W_X7_rings cyI cyJ cyO h_o a_o_sets a_o_ringFar a_o_ringTone a_o_currents a_o_warmths a_o_depths a_o_tape a_o_readFar a_o_readTone a_o_readSea a_o_code a_o_cellAt a_o_courseAt a_o_paceAt a_o_turnsAt a_o_slowAt a_o_fuelAt a_o_ringAt a_o_pieceParts a_o_dragCell a_o_dragBy a_o_sums a_o_shares a_o_keptFar a_o_image a_o_lanes a_o_sizes a_o_items a_o_movedItems o_taped o_at o_wrong o_level o_noRings o_noTones o_noFuel o_pieces o_drags o_all o_noPieces o_noDrags o_kept o_ringFar o_ringTone o_tape o_readFar (upd o_readTone y1.toNatClampNeg y0)) H := hP
        have hD : va_D A (W_X7_rings cyI cyJ cyO h_o a_o_sets a_o_ringFar a_o_ringTone a_o_currents a_o_warmths a_o_depths a_o_tape a_o_readFar a_o_readTone a_o_readSea a_o_code a_o_cellAt a_o_courseAt a_o_paceAt a_o_turnsAt a_o_slowAt a_o_fuelAt a_o_ringAt a_o_pieceParts a_o_dragCell a_o_dragBy a_o_sums a_o_shares a_o_keptFar a_o_image a_o_lanes a_o_sizes a_o_items a_o_movedItems o_taped o_at o_wrong o_level o_noRings o_noTones o_noFuel o_pieces o_drags o_all o_noPieces o_noDrags o_kept o_ringFar o_ringTone o_tape o_readFar (upd o_readTone y1.toNatClampNeg y0)) := hD
        refine lv_aload_n hx hb dX7_rings_176 rfl (lv_at hl 0 rfl) ?_
        refine lv_dup hx hb dX7_rings_177 rfl ?_
        refine va_get (D := (dC, dI)) (ci := 7) (v := .int o_at) (C := RX7) (T := TX7) (N := 42) hx hb hts hi7 hown hK hP 0 rfl rfl 8 (by decide) hq7 (fun _ h9 => h9) rfl dX7_rings_178 ?_
        refine lv_aload_n hx hb dX7_rings_181 rfl (lv_at hl 0 rfl) ?_
        refine va_get (D := (dC, dI)) (ci := 7) (v := .ref a_o_readTone) (C := RX7) (T := TX7) (N := 42) hx hb hts hi7 hown hK hP 0 rfl rfl 11 (by decide) hq4 (fun _ h9 => h9) rfl dX7_rings_182 ?_
        refine lv_iload hx hb dX7_rings_185 (lv_at hl 3 rfl) ?_
        obtain ⟨h_21, hw⟩ := okC hw
        refine va_iald (i := v4) hx hb hK hP 5 0 rfl rfl h_21 dX7_rings_187 ?_
        refine lv_if_le (tgt := 195) hx hb dX7_rings_188 (by decide) (fun c_22 => ?_) (fun c_22 => ?_)
        · replace hw := okT hw c_22
          clear c_22
          refine lv_iconst (v := 0) hx hb dX7_rings_195 (by decide) ?_
          exact w196 v1 v2 0 o_at o_taped o_at o_wrong o_ringFar o_ringTone o_readFar (upd o_readTone y1.toNatClampNeg y0) _ _ hP hD hS _ (lv_sub hl [0, 1, 2] rfl) hw
        · replace hw := okF hw c_22
          clear c_22
          refine lv_iconst (v := 1) hx hb dX7_rings_191 (by decide) ?_
          refine lv_goto (tgt := 196) hx hb dX7_rings_192 (by decide) ?_
          exact w196 v1 v2 1 o_at o_taped o_at o_wrong o_ringFar o_ringTone o_readFar (upd o_readTone y1.toNatClampNeg y0) _ _ hP hD hS _ (lv_sub hl [0, 1, 2] rfl) hw
      have w144 : ∀ (v1 : Int32) (v2 : Int32) (v4 : Int32) (y0 : Int32) (o_taped : Int32) (o_at : Int32) (o_wrong : Int32) (o_ringFar : Nat → Int32) (o_ringTone : Nat → Int32) (o_readFar : Nat → Int32) (o_readTone : Nat → Int32) (H : Heap) (locs : List Loc), va_P (dC, dI) vwCl (W_X7_rings cyI cyJ cyO h_o a_o_sets a_o_ringFar a_o_ringTone a_o_currents a_o_warmths a_o_depths a_o_tape a_o_readFar a_o_readTone a_o_readSea a_o_code a_o_cellAt a_o_courseAt a_o_paceAt a_o_turnsAt a_o_slowAt a_o_fuelAt a_o_ringAt a_o_pieceParts a_o_dragCell a_o_dragBy a_o_sums a_o_shares a_o_keptFar a_o_image a_o_lanes a_o_sizes a_o_items a_o_movedItems o_taped o_at o_wrong o_level o_noRings o_noTones o_noFuel o_pieces o_drags o_all o_noPieces o_noDrags o_kept o_ringFar o_ringTone o_tape o_readFar o_readTone) H → va_D A (W_X7_rings cyI cyJ cyO h_o a_o_sets a_o_ringFar a_o_ringTone a_o_currents a_o_warmths a_o_depths a_o_tape a_o_readFar a_o_readTone a_o_readSea a_o_code a_o_cellAt a_o_courseAt a_o_paceAt a_o_turnsAt a_o_slowAt a_o_fuelAt a_o_ringAt a_o_pieceParts a_o_dragCell a_o_dragBy a_o_sums a_o_shares a_o_keptFar a_o_image a_o_lanes a_o_sizes a_o_items a_o_movedItems o_taped o_at o_wrong o_level o_noRings o_noTones o_noFuel o_pieces o_drags o_all o_noPieces o_noDrags o_kept o_ringFar o_ringTone o_tape o_readFar o_readTone) → va_S A s.heap H locs → ∀ (ls : Array Slot), lv_has ls 6 [(0, .ref h_o), (1, .int v1), (2, .int v2), (4, .int v4)] → okP (f_X7_rings_B144 (f_X7_rings_L54 n54) v1 v2 v4 y0 o_taped o_at o_wrong o_ringFar o_ringTone o_tape o_readFar o_readTone) post → W p l e (headSpec wsX7_rings rm_X7_rings).room s m ([.ref h_o] : List Value).toArray below meth c H locs 0 0 Q (F0 m 144 ls [.int y0]) := by
        intro v1 v2 v4 y0 o_taped o_at o_wrong o_ringFar o_ringTone o_readFar o_readTone H locs hP hD hS ls hl hw
        unfold f_X7_rings_B144 at hw
        refine lv_istore (lv' := [(5, .int y0), (0, .ref h_o), (1, .int v1), (2, .int v2), (4, .int v4)]) hx hb dX7_rings_144 hl (by decide) rfl (fun ls hl => ?_)
        refine lv_aload_n hx hb dX7_rings_146 rfl (lv_at hl 1 rfl) ?_
        refine va_get (D := (dC, dI)) (ci := 7) (v := .ref a_o_readTone) (C := RX7) (T := TX7) (N := 42) hx hb hts hi7 hown hK hP 0 rfl rfl 11 (by decide) hq4 (fun _ h9 => h9) rfl dX7_rings_147 ?_
        refine lv_iload hx hb dX7_rings_150 (lv_at hl 4 rfl) ?_
        refine lv_iload hx hb dX7_rings_152 (lv_at hl 0 rfl) ?_
        refine lv_bipush (v := 43) hx hb dX7_rings_154 (by decide) ?_
        refine lv_icmp_ne (tgt := 163) hx hb dX7_rings_156 (by decide) (fun c_23 => ?_) (fun c_23 => ?_)
        · replace hw := okF hw c_23
          clear c_23
          refine lv_iload hx hb dX7_rings_163 (lv_at hl 0 rfl) ?_
          refine lv_bipush (v := 45) hx hb dX7_rings_165 (by decide) ?_
          refine lv_icmp_ne (tgt := 174) hx hb dX7_rings_167 (by decide) (fun c_24 => ?_) (fun c_24 => ?_)
          · replace hw := okF hw c_24
            clear c_24
            refine lv_iconst (v := 0) hx hb dX7_rings_174 (by decide) ?_
            exact w175 v1 v2 v4 0 v4 o_taped o_at o_wrong o_ringFar o_ringTone o_readFar o_readTone _ _ hP hD hS _ (lv_sub hl [1, 2, 3, 4] rfl) hw
          · replace hw := okT hw c_24
            clear c_24
            refine lv_iconst (v := 1) hx hb dX7_rings_170 (by decide) ?_
            refine lv_goto (tgt := 175) hx hb dX7_rings_171 (by decide) ?_
            exact w175 v1 v2 v4 1 v4 o_taped o_at o_wrong o_ringFar o_ringTone o_readFar o_readTone _ _ hP hD hS _ (lv_sub hl [1, 2, 3, 4] rfl) hw
        · replace hw := okT hw c_23
          clear c_23
          refine lv_iconst (v := 2) hx hb dX7_rings_159 (by decide) ?_
          refine lv_goto (tgt := 175) hx hb dX7_rings_160 (by decide) ?_
          exact w175 v1 v2 v4 2 v4 o_taped o_at o_wrong o_ringFar o_ringTone o_readFar o_readTone _ _ hP hD hS _ (lv_sub hl [1, 2, 3, 4] rfl) hw
      have w114 : ∀ (v1 : Int32) (v2 : Int32) (v4 : Int32) (y0 : Int32) (y1 : Int32) (o_taped : Int32) (o_at : Int32) (o_wrong : Int32) (o_ringFar : Nat → Int32) (o_ringTone : Nat → Int32) (o_readFar : Nat → Int32) (o_readTone : Nat → Int32) (H : Heap) (locs : List Loc), va_P (dC, dI) vwCl (W_X7_rings cyI cyJ cyO h_o a_o_sets a_o_ringFar a_o_ringTone a_o_currents a_o_warmths a_o_depths a_o_tape a_o_readFar a_o_readTone a_o_readSea a_o_code a_o_cellAt a_o_courseAt a_o_paceAt a_o_turnsAt a_o_slowAt a_o_fuelAt a_o_ringAt a_o_pieceParts a_o_dragCell a_o_dragBy a_o_sums a_o_shares a_o_keptFar a_o_image a_o_lanes a_o_sizes a_o_items a_o_movedItems o_taped o_at o_wrong o_level o_noRings o_noTones o_noFuel o_pieces o_drags o_all o_noPieces o_noDrags o_kept o_ringFar o_ringTone o_tape o_readFar o_readTone) H → va_D A (W_X7_rings cyI cyJ cyO h_o a_o_sets a_o_ringFar a_o_ringTone a_o_currents a_o_warmths a_o_depths a_o_tape a_o_readFar a_o_readTone a_o_readSea a_o_code a_o_cellAt a_o_courseAt a_o_paceAt a_o_turnsAt a_o_slowAt a_o_fuelAt a_o_ringAt a_o_pieceParts a_o_dragCell a_o_dragBy a_o_sums a_o_shares a_o_keptFar a_o_image a_o_lanes a_o_sizes a_o_items a_o_movedItems o_taped o_at o_wrong o_level o_noRings o_noTones o_noFuel o_pieces o_drags o_all o_noPieces o_noDrags o_kept o_ringFar o_ringTone o_tape o_readFar o_readTone) → va_S A s.heap H locs → ∀ (ls : Array Slot), lv_has ls 6 [(0, .ref h_o), (1, .int v1), (2, .int v2), (4, .int v4)] → okP (f_X7_rings_B114 (f_X7_rings_L54 n54) v1 v2 v4 y0 y1 o_taped o_at o_wrong o_ringFar o_ringTone o_tape o_readFar o_readTone) post → W p l e (headSpec wsX7_rings rm_X7_rings).room s m ([.ref h_o] : List Value).toArray below meth c H locs 0 0 Q (F0 m 114 ls [.int y0, .int y1, .ref h_o]) := by
        intro v1 v2 v4 y0 y1 o_taped o_at o_wrong o_ringFar o_ringTone o_readFar o_readTone H locs hP hD hS ls hl hw
        unfold f_X7_rings_B114 at hw
        refine lv_iadd hx hb dX7_rings_114 ?_
        refine lv_topi (fun x_25 ex_25 => ?_)
        replace hw := okN ex_25 hw
        clear ex_25
        refine va_put (D := (dC, dI)) (ci := 7) (v := .int x_25) (ty := .int) (C := RX7) (T := TX7) (N := 42) hx hb hts hi7 tyX7 tyX7_ok nmX7 hown hK hP hD hS 0 rfl rfl 8 (by decide) hq7 (fun _ h9 => h9) rfl (by decide +kernel) rfl rfl (Nat.le_of_ble_eq_true rfl) dX7_rings_115 (fun H locs hP hD hS => ?_)
        have hP : va_P (dC, dI) vwCl (W_X7_rings cyI cyJ cyO h_o a_o_sets a_o_ringFar a_o_ringTone a_o_currents a_o_warmths a_o_depths a_o_tape a_o_readFar a_o_readTone a_o_readSea a_o_code a_o_cellAt a_o_courseAt a_o_paceAt a_o_turnsAt a_o_slowAt a_o_fuelAt a_o_ringAt a_o_pieceParts a_o_dragCell a_o_dragBy a_o_sums a_o_shares a_o_keptFar a_o_image a_o_lanes a_o_sizes a_o_items a_o_movedItems o_taped x_25 o_wrong o_level o_noRings o_noTones o_noFuel o_pieces o_drags o_all o_noPieces o_noDrags o_kept o_ringFar o_ringTone o_tape o_readFar o_readTone) H := hP
        have hD : va_D A (W_X7_rings cyI cyJ cyO h_o a_o_sets a_o_ringFar a_o_ringTone a_o_currents a_o_warmths a_o_depths a_o_tape a_o_readFar a_o_readTone a_o_readSea a_o_code a_o_cellAt a_o_courseAt a_o_paceAt a_o_turnsAt a_o_slowAt a_o_fuelAt a_o_ringAt a_o_pieceParts a_o_dragCell a_o_dragBy a_o_sums a_o_shares a_o_keptFar a_o_image a_o_lanes a_o_sizes a_o_items a_o_movedItems o_taped x_25 o_wrong o_level o_noRings o_noTones o_noFuel o_pieces o_drags o_all o_noPieces o_noDrags o_kept o_ringFar o_ringTone o_tape o_readFar o_readTone) := hD
        refine lv_aload_n hx hb dX7_rings_118 rfl (lv_at hl 0 rfl) ?_
        refine va_get (D := (dC, dI)) (ci := 7) (v := .ref a_o_readFar) (C := RX7) (T := TX7) (N := 42) hx hb hts hi7 hown hK hP 0 rfl rfl 10 (by decide) hq2 (fun _ h9 => h9) rfl dX7_rings_119 ?_
        refine lv_iload hx hb dX7_rings_122 (lv_at hl 3 rfl) ?_
        refine lv_aload_n hx hb dX7_rings_124 rfl (lv_at hl 0 rfl) ?_
        have hPc := hP.sub (ws' := (W_X7_number cyI cyJ cyO h_o a_o_sets a_o_ringFar a_o_ringTone a_o_currents a_o_warmths a_o_depths a_o_tape a_o_readFar a_o_readTone a_o_readSea a_o_code a_o_cellAt a_o_courseAt a_o_paceAt a_o_turnsAt a_o_slowAt a_o_fuelAt a_o_ringAt a_o_pieceParts a_o_dragCell a_o_dragBy a_o_sums a_o_shares a_o_keptFar a_o_image a_o_lanes a_o_sizes a_o_items a_o_movedItems o_taped x_25 o_wrong o_level o_noRings o_noTones o_noFuel o_pieces o_drags o_all o_noPieces o_noDrags o_kept o_tape)) [0, 3] rfl
        have hDc := hD.sub (ws' := (W_X7_number cyI cyJ cyO h_o a_o_sets a_o_ringFar a_o_ringTone a_o_currents a_o_warmths a_o_depths a_o_tape a_o_readFar a_o_readTone a_o_readSea a_o_code a_o_cellAt a_o_courseAt a_o_paceAt a_o_turnsAt a_o_slowAt a_o_fuelAt a_o_ringAt a_o_pieceParts a_o_dragCell a_o_dragBy a_o_sums a_o_shares a_o_keptFar a_o_image a_o_lanes a_o_sizes a_o_items a_o_movedItems o_taped x_25 o_wrong o_level o_noRings o_noTones o_noFuel o_pieces o_drags o_all o_noPieces o_noDrags o_kept o_tape)) [0, 3] (by decide +kernel) rfl
        have hFc := va_free (wc := (W_X7_number cyI cyJ cyO h_o a_o_sets a_o_ringFar a_o_ringTone a_o_currents a_o_warmths a_o_depths a_o_tape a_o_readFar a_o_readTone a_o_readSea a_o_code a_o_cellAt a_o_courseAt a_o_paceAt a_o_turnsAt a_o_slowAt a_o_fuelAt a_o_ringAt a_o_pieceParts a_o_dragCell a_o_dragBy a_o_sums a_o_shares a_o_keptFar a_o_image a_o_lanes a_o_sizes a_o_items a_o_movedItems o_taped x_25 o_wrong o_level o_noRings o_noTones o_noFuel o_pieces o_drags o_all o_noPieces o_noDrags o_kept o_tape)) hD hS hA [0, 3] rfl
        refine kc_i (wr := [(a_o_ringFar, .inl (cyI, 7, .inl o_ringFar)), (a_o_ringTone, .inl (cyI, 7, .inl o_ringTone)), (a_o_readFar, .inl (cyI, 7, .inl o_readFar)), (a_o_readTone, .inl (cyI, 7, .inl o_readTone))]) (va_runV (As := []) (rest := [.int v4, .ref a_o_readFar]) ⟨hx, hb, hml, hown, hts⟩ (c_X7_number l dC dI cyI cyJ cyO H.size h_o a_o_sets a_o_ringFar a_o_ringTone a_o_currents a_o_warmths a_o_depths a_o_tape a_o_readFar a_o_readTone a_o_readSea a_o_code a_o_cellAt a_o_courseAt a_o_paceAt a_o_turnsAt a_o_slowAt a_o_fuelAt a_o_ringAt a_o_pieceParts a_o_dragCell a_o_dragBy a_o_sums a_o_shares a_o_keptFar a_o_image a_o_lanes a_o_sizes a_o_items a_o_movedItems o_taped x_25 o_wrong o_level o_noRings o_noTones o_noFuel o_pieces o_drags o_all o_noPieces o_noDrags o_kept o_tape _ (okb3 hw)) (cwV 0 hts (gdV (fun w h => List.mem_cons_of_mem _ h) q_881 q_883 qs_27 q_8 q_884) rfl rfl rfl (by decide +kernel) ⟨Nat.le_of_ble_eq_true rfl, Nat.le_of_ble_eq_true rfl⟩) ⟨(kpre zN_ok hK hPc hDc trivial hS hFc).1, va_recv hK hP (ci := 7) (q0 := 0) rfl rfl, (kpre zN_ok hK hPc hDc trivial hS hFc).2⟩ rfl rfl hl.1 rfl (lv_room (Nat.le_of_ble_eq_true rfl)) dX7_rings_125 ⟨Nat.le_of_ble_eq_true rfl, Nat.le_of_ble_eq_true rfl⟩) hP hD hS hFc [0, 3] [1, 2, 4, 5] rfl rfl (by decide +kernel) (by decide +kernel) (fun r_26 u H locs hw hP hD hS => ?_)
        obtain ⟨w_27, w_28⟩ := u
        try dsimp only at hw
        have hP : va_P (dC, dI) vwCl (W_X7_rings cyI cyJ cyO h_o a_o_sets a_o_ringFar a_o_ringTone a_o_currents a_o_warmths a_o_depths a_o_tape a_o_readFar a_o_readTone a_o_readSea a_o_code a_o_cellAt a_o_courseAt a_o_paceAt a_o_turnsAt a_o_slowAt a_o_fuelAt a_o_ringAt a_o_pieceParts a_o_dragCell a_o_dragBy a_o_sums a_o_shares a_o_keptFar a_o_image a_o_lanes a_o_sizes a_o_items a_o_movedItems o_taped w_27 w_28 o_level o_noRings o_noTones o_noFuel o_pieces o_drags o_all o_noPieces o_noDrags o_kept o_ringFar o_ringTone o_tape o_readFar o_readTone) H := hP.sub [4, 0, 1, 5, 2, 3] rfl
        have hD : va_D A (W_X7_rings cyI cyJ cyO h_o a_o_sets a_o_ringFar a_o_ringTone a_o_currents a_o_warmths a_o_depths a_o_tape a_o_readFar a_o_readTone a_o_readSea a_o_code a_o_cellAt a_o_courseAt a_o_paceAt a_o_turnsAt a_o_slowAt a_o_fuelAt a_o_ringAt a_o_pieceParts a_o_dragCell a_o_dragBy a_o_sums a_o_shares a_o_keptFar a_o_image a_o_lanes a_o_sizes a_o_items a_o_movedItems o_taped w_27 w_28 o_level o_noRings o_noTones o_noFuel o_pieces o_drags o_all o_noPieces o_noDrags o_kept o_ringFar o_ringTone o_tape o_readFar o_readTone) := hD.sub [4, 0, 1, 5, 2, 3] (by decide +kernel) rfl
        clear hPc hDc hFc
        obtain ⟨h_29, hw⟩ := okC hw
        refine va_iast (i := v4) (x := r_26) hx hb hK hP hD hS 4 0 rfl rfl h_29 dX7_rings_128 (fun H locs hP hD hS => ?_)
        have hP : va_P (dC, dI) vwCl (W_X7_rings cyI cyJ cyO h_o a_o_sets a_o_ringFar a_o_ringTone a_o_currents a_o_warmths a_o_depths a_o_tape a_o_readFar a_o_readTone a_o_readSea a_o_code a_o_cellAt a_o_courseAt a_o_paceAt a_o_turnsAt a_o_slowAt a_o_fuelAt a_o_ringAt a_o_pieceParts a_o_dragCell a_o_dragBy a_o_sums a_o_shares a_o_keptFar a_o_image a_o_lanes a_o_sizes a_o_items a_o_movedItems o_taped w_27 w_28 o_level o_noRings o_noTones o_noFuel o_pieces o_drags o_all o_noPieces o_noDrags o_kept o_ringFar o_ringTone o_tape (upd o_readFar v4.toNatClampNeg r_26) o_readTone) H := hP
        have hD : va_D A (W_X7_rings cyI cyJ cyO h_o a_o_sets a_o_ringFar a_o_ringTone a_o_currents a_o_warmths a_o_depths a_o_tape a_o_readFar a_o_readTone a_o_readSea a_o_code a_o_cellAt a_o_courseAt a_o_paceAt a_o_turnsAt a_o_slowAt a_o_fuelAt a_o_ringAt a_o_pieceParts a_o_dragCell a_o_dragBy a_o_sums a_o_shares a_o_keptFar a_o_image a_o_lanes a_o_sizes a_o_items a_o_movedItems o_taped w_27 w_28 o_level o_noRings o_noTones o_noFuel o_pieces o_drags o_all o_noPieces o_noDrags o_kept o_ringFar o_ringTone o_tape (upd o_readFar v4.toNatClampNeg r_26) o_readTone) := hD
        refine lv_aload_n hx hb dX7_rings_129 rfl (lv_at hl 0 rfl) ?_
        refine va_get (D := (dC, dI)) (ci := 7) (v := .int w_28) (C := RX7) (T := TX7) (N := 42) hx hb hts hi7 hown hK hP 0 rfl rfl 9 (by decide) hq5 (fun _ h9 => h9) rfl dX7_rings_130 ?_
        refine lv_if_eq (tgt := 140) hx hb dX7_rings_133 (by decide) (fun c_30 => ?_) (fun c_30 => ?_)
        · replace hw := okT hw c_30
          clear c_30
          refine lv_aload_n hx hb dX7_rings_140 rfl (lv_at hl 0 rfl) ?_
          have hPc := hP.sub (ws' := (W_X7_here cyI cyJ cyO h_o a_o_sets a_o_ringFar a_o_ringTone a_o_currents a_o_warmths a_o_depths a_o_tape a_o_readFar a_o_readTone a_o_readSea a_o_code a_o_cellAt a_o_courseAt a_o_paceAt a_o_turnsAt a_o_slowAt a_o_fuelAt a_o_ringAt a_o_pieceParts a_o_dragCell a_o_dragBy a_o_sums a_o_shares a_o_keptFar a_o_image a_o_lanes a_o_sizes a_o_items a_o_movedItems o_taped w_27 w_28 o_level o_noRings o_noTones o_noFuel o_pieces o_drags o_all o_noPieces o_noDrags o_kept o_tape)) [0, 3] rfl
          have hDc := hD.sub (ws' := (W_X7_here cyI cyJ cyO h_o a_o_sets a_o_ringFar a_o_ringTone a_o_currents a_o_warmths a_o_depths a_o_tape a_o_readFar a_o_readTone a_o_readSea a_o_code a_o_cellAt a_o_courseAt a_o_paceAt a_o_turnsAt a_o_slowAt a_o_fuelAt a_o_ringAt a_o_pieceParts a_o_dragCell a_o_dragBy a_o_sums a_o_shares a_o_keptFar a_o_image a_o_lanes a_o_sizes a_o_items a_o_movedItems o_taped w_27 w_28 o_level o_noRings o_noTones o_noFuel o_pieces o_drags o_all o_noPieces o_noDrags o_kept o_tape)) [0, 3] (by decide +kernel) rfl
          have hFc := va_free (wc := (W_X7_here cyI cyJ cyO h_o a_o_sets a_o_ringFar a_o_ringTone a_o_currents a_o_warmths a_o_depths a_o_tape a_o_readFar a_o_readTone a_o_readSea a_o_code a_o_cellAt a_o_courseAt a_o_paceAt a_o_turnsAt a_o_slowAt a_o_fuelAt a_o_ringAt a_o_pieceParts a_o_dragCell a_o_dragBy a_o_sums a_o_shares a_o_keptFar a_o_image a_o_lanes a_o_sizes a_o_items a_o_movedItems o_taped w_27 w_28 o_level o_noRings o_noTones o_noFuel o_pieces o_drags o_all o_noPieces o_noDrags o_kept o_tape)) hD hS hA [0, 3] rfl
          refine kc_i (wr := [(a_o_ringFar, .inl (cyI, 7, .inl o_ringFar)), (a_o_ringTone, .inl (cyI, 7, .inl o_ringTone)), (a_o_readFar, .inl (cyI, 7, .inl (upd o_readFar v4.toNatClampNeg r_26))), (a_o_readTone, .inl (cyI, 7, .inl o_readTone))]) (va_runV (As := []) (rest := []) ⟨hx, hb, hml, hown, hts⟩ (c_X7_here l dC dI cyI cyJ cyO H.size h_o a_o_sets a_o_ringFar a_o_ringTone a_o_currents a_o_warmths a_o_depths a_o_tape a_o_readFar a_o_readTone a_o_readSea a_o_code a_o_cellAt a_o_courseAt a_o_paceAt a_o_turnsAt a_o_slowAt a_o_fuelAt a_o_ringAt a_o_pieceParts a_o_dragCell a_o_dragBy a_o_sums a_o_shares a_o_keptFar a_o_image a_o_lanes a_o_sizes a_o_items a_o_movedItems o_taped w_27 w_28 o_level o_noRings o_noTones o_noFuel o_pieces o_drags o_all o_noPieces o_noDrags o_kept o_tape _ (okb2 hw)) (cwV 0 hts (gdV (fun w h => List.mem_cons_of_mem _ h) q_877 q_879 qs_26 q_8 q_880) rfl rfl rfl (by decide +kernel) ⟨Nat.le_of_ble_eq_true rfl, Nat.le_of_ble_eq_true rfl⟩) ⟨(kpre zN_ok hK hPc hDc trivial hS hFc).1, va_recv hK hP (ci := 7) (q0 := 0) rfl rfl, (kpre zN_ok hK hPc hDc trivial hS hFc).2⟩ rfl rfl hl.1 rfl (lv_room (Nat.le_of_ble_eq_true rfl)) dX7_rings_141 ⟨Nat.le_of_ble_eq_true rfl, Nat.le_of_ble_eq_true rfl⟩) hP hD hS hFc [0, 3] [1, 2, 4, 5] rfl rfl (by decide +kernel) (by decide +kernel) (fun r_31 w_32 H locs hw hP hD hS => ?_)
          try dsimp only at hw
          have hP : va_P (dC, dI) vwCl (W_X7_rings cyI cyJ cyO h_o a_o_sets a_o_ringFar a_o_ringTone a_o_currents a_o_warmths a_o_depths a_o_tape a_o_readFar a_o_readTone a_o_readSea a_o_code a_o_cellAt a_o_courseAt a_o_paceAt a_o_turnsAt a_o_slowAt a_o_fuelAt a_o_ringAt a_o_pieceParts a_o_dragCell a_o_dragBy a_o_sums a_o_shares a_o_keptFar a_o_image a_o_lanes a_o_sizes a_o_items a_o_movedItems o_taped w_32 w_28 o_level o_noRings o_noTones o_noFuel o_pieces o_drags o_all o_noPieces o_noDrags o_kept o_ringFar o_ringTone o_tape (upd o_readFar v4.toNatClampNeg r_26) o_readTone) H := hP.sub [4, 0, 1, 5, 2, 3] rfl
          have hD : va_D A (W_X7_rings cyI cyJ cyO h_o a_o_sets a_o_ringFar a_o_ringTone a_o_currents a_o_warmths a_o_depths a_o_tape a_o_readFar a_o_readTone a_o_readSea a_o_code a_o_cellAt a_o_courseAt a_o_paceAt a_o_turnsAt a_o_slowAt a_o_fuelAt a_o_ringAt a_o_pieceParts a_o_dragCell a_o_dragBy a_o_sums a_o_shares a_o_keptFar a_o_image a_o_lanes a_o_sizes a_o_items a_o_movedItems o_taped w_32 w_28 o_level o_noRings o_noTones o_noFuel o_pieces o_drags o_all o_noPieces o_noDrags o_kept o_ringFar o_ringTone o_tape (upd o_readFar v4.toNatClampNeg r_26) o_readTone) := hD.sub [4, 0, 1, 5, 2, 3] (by decide +kernel) rfl
          clear hPc hDc hFc
          exact w144 v1 v2 v4 r_31 o_taped w_32 w_28 o_ringFar o_ringTone (upd o_readFar v4.toNatClampNeg r_26) o_readTone _ _ hP hD hS _ (lv_sub hl [0, 1, 2, 3] rfl) hw
        · replace hw := okF hw c_30
          clear c_30
          refine lv_iconst (v := 0) hx hb dX7_rings_136 (by decide) ?_
          refine lv_goto (tgt := 144) hx hb dX7_rings_137 (by decide) ?_
          exact w144 v1 v2 v4 0 o_taped w_27 w_28 o_ringFar o_ringTone (upd o_readFar v4.toNatClampNeg r_26) o_readTone _ _ hP hD hS _ (lv_sub hl [0, 1, 2, 3] rfl) hw
      have w94 : ∀ (v1 : Int32) (v2 : Int32) (v4 : Int32) (y0 : Int32) (o_taped : Int32) (o_at : Int32) (o_wrong : Int32) (o_ringFar : Nat → Int32) (o_ringTone : Nat → Int32) (o_readFar : Nat → Int32) (o_readTone : Nat → Int32) (H : Heap) (locs : List Loc), va_P (dC, dI) vwCl (W_X7_rings cyI cyJ cyO h_o a_o_sets a_o_ringFar a_o_ringTone a_o_currents a_o_warmths a_o_depths a_o_tape a_o_readFar a_o_readTone a_o_readSea a_o_code a_o_cellAt a_o_courseAt a_o_paceAt a_o_turnsAt a_o_slowAt a_o_fuelAt a_o_ringAt a_o_pieceParts a_o_dragCell a_o_dragBy a_o_sums a_o_shares a_o_keptFar a_o_image a_o_lanes a_o_sizes a_o_items a_o_movedItems o_taped o_at o_wrong o_level o_noRings o_noTones o_noFuel o_pieces o_drags o_all o_noPieces o_noDrags o_kept o_ringFar o_ringTone o_tape o_readFar o_readTone) H → va_D A (W_X7_rings cyI cyJ cyO h_o a_o_sets a_o_ringFar a_o_ringTone a_o_currents a_o_warmths a_o_depths a_o_tape a_o_readFar a_o_readTone a_o_readSea a_o_code a_o_cellAt a_o_courseAt a_o_paceAt a_o_turnsAt a_o_slowAt a_o_fuelAt a_o_ringAt a_o_pieceParts a_o_dragCell a_o_dragBy a_o_sums a_o_shares a_o_keptFar a_o_image a_o_lanes a_o_sizes a_o_items a_o_movedItems o_taped o_at o_wrong o_level o_noRings o_noTones o_noFuel o_pieces o_drags o_all o_noPieces o_noDrags o_kept o_ringFar o_ringTone o_tape o_readFar o_readTone) → va_S A s.heap H locs → ∀ (ls : Array Slot), lv_has ls 6 [(0, .ref h_o), (1, .int v1), (2, .int v2), (4, .int v4)] → okP (f_X7_rings_B94 (f_X7_rings_L54 n54) v1 v2 v4 y0 o_taped o_at o_wrong o_ringFar o_ringTone o_tape o_readFar o_readTone) post → W p l e (headSpec wsX7_rings rm_X7_rings).room s m ([.ref h_o] : List Value).toArray below meth c H locs 0 0 Q (F0 m 94 ls [.int y0, .ref h_o]) := by
        intro v1 v2 v4 y0 o_taped o_at o_wrong o_ringFar o_ringTone o_readFar o_readTone H locs hP hD hS ls hl hw
        unfold f_X7_rings_B94 at hw
        obtain ⟨h_33, hw⟩ := okC hw
        refine va_put (D := (dC, dI)) (ci := 7) (v := .int y0) (ty := .boolean) (C := RX7) (T := TX7) (N := 42) hx hb hts hi7 tyX7 tyX7_ok nmX7 hown hK hP hD hS 0 rfl rfl 9 (by decide) hq5 (fun _ h9 => h9) rfl (by decide +kernel) (nbZ h_33) (ftZ h_33) (Nat.le_of_ble_eq_true rfl) dX7_rings_94 (fun H locs hP hD hS => ?_)
        have hP : va_P (dC, dI) vwCl (W_X7_rings cyI cyJ cyO h_o a_o_sets a_o_ringFar a_o_ringTone a_o_currents a_o_warmths a_o_depths a_o_tape a_o_readFar a_o_readTone a_o_readSea a_o_code a_o_cellAt a_o_courseAt a_o_paceAt a_o_turnsAt a_o_slowAt a_o_fuelAt a_o_ringAt a_o_pieceParts a_o_dragCell a_o_dragBy a_o_sums a_o_shares a_o_keptFar a_o_image a_o_lanes a_o_sizes a_o_items a_o_movedItems o_taped o_at y0 o_level o_noRings o_noTones o_noFuel o_pieces o_drags o_all o_noPieces o_noDrags o_kept o_ringFar o_ringTone o_tape o_readFar o_readTone) H := hP
        have hD : va_D A (W_X7_rings cyI cyJ cyO h_o a_o_sets a_o_ringFar a_o_ringTone a_o_currents a_o_warmths a_o_depths a_o_tape a_o_readFar a_o_readTone a_o_readSea a_o_code a_o_cellAt a_o_courseAt a_o_paceAt a_o_turnsAt a_o_slowAt a_o_fuelAt a_o_ringAt a_o_pieceParts a_o_dragCell a_o_dragBy a_o_sums a_o_shares a_o_keptFar a_o_image a_o_lanes a_o_sizes a_o_items a_o_movedItems o_taped o_at y0 o_level o_noRings o_noTones o_noFuel o_pieces o_drags o_all o_noPieces o_noDrags o_kept o_ringFar o_ringTone o_tape o_readFar o_readTone) := hD
        refine lv_aload_n hx hb dX7_rings_97 rfl (lv_at hl 0 rfl) ?_
        refine lv_dup hx hb dX7_rings_98 rfl ?_
        refine va_get (D := (dC, dI)) (ci := 7) (v := .int o_at) (C := RX7) (T := TX7) (N := 42) hx hb hts hi7 hown hK hP 0 rfl rfl 8 (by decide) hq7 (fun _ h9 => h9) rfl dX7_rings_99 ?_
        refine lv_aload_n hx hb dX7_rings_102 rfl (lv_at hl 0 rfl) ?_
        refine va_get (D := (dC, dI)) (ci := 7) (v := .int y0) (C := RX7) (T := TX7) (N := 42) hx hb hts hi7 hown hK hP 0 rfl rfl 9 (by decide) hq5 (fun _ h9 => h9) rfl dX7_rings_103 ?_
        refine lv_if_eq (tgt := 113) hx hb dX7_rings_106 (by decide) (fun c_34 => ?_) (fun c_34 => ?_)
        · replace hw := okT hw c_34
          clear c_34
          refine lv_iconst (v := 1) hx hb dX7_rings_113 (by decide) ?_
          exact w114 v1 v2 v4 1 o_at o_taped o_at y0 o_ringFar o_ringTone o_readFar o_readTone _ _ hP hD hS _ (lv_sub hl [0, 1, 2, 3] rfl) hw
        · replace hw := okF hw c_34
          clear c_34
          refine lv_iconst (v := 0) hx hb dX7_rings_109 (by decide) ?_
          refine lv_goto (tgt := 114) hx hb dX7_rings_110 (by decide) ?_
          exact w114 v1 v2 v4 0 o_at o_taped o_at y0 o_ringFar o_ringTone o_readFar o_readTone _ _ hP hD hS _ (lv_sub hl [0, 1, 2, 3] rfl) hw
      have w89 : ∀ (v1 : Int32) (v2 : Int32) (v4 : Int32) (o_taped : Int32) (o_at : Int32) (o_wrong : Int32) (o_ringFar : Nat → Int32) (o_ringTone : Nat → Int32) (o_readFar : Nat → Int32) (o_readTone : Nat → Int32) (H : Heap) (locs : List Loc), va_P (dC, dI) vwCl (W_X7_rings cyI cyJ cyO h_o a_o_sets a_o_ringFar a_o_ringTone a_o_currents a_o_warmths a_o_depths a_o_tape a_o_readFar a_o_readTone a_o_readSea a_o_code a_o_cellAt a_o_courseAt a_o_paceAt a_o_turnsAt a_o_slowAt a_o_fuelAt a_o_ringAt a_o_pieceParts a_o_dragCell a_o_dragBy a_o_sums a_o_shares a_o_keptFar a_o_image a_o_lanes a_o_sizes a_o_items a_o_movedItems o_taped o_at o_wrong o_level o_noRings o_noTones o_noFuel o_pieces o_drags o_all o_noPieces o_noDrags o_kept o_ringFar o_ringTone o_tape o_readFar o_readTone) H → va_D A (W_X7_rings cyI cyJ cyO h_o a_o_sets a_o_ringFar a_o_ringTone a_o_currents a_o_warmths a_o_depths a_o_tape a_o_readFar a_o_readTone a_o_readSea a_o_code a_o_cellAt a_o_courseAt a_o_paceAt a_o_turnsAt a_o_slowAt a_o_fuelAt a_o_ringAt a_o_pieceParts a_o_dragCell a_o_dragBy a_o_sums a_o_shares a_o_keptFar a_o_image a_o_lanes a_o_sizes a_o_items a_o_movedItems o_taped o_at o_wrong o_level o_noRings o_noTones o_noFuel o_pieces o_drags o_all o_noPieces o_noDrags o_kept o_ringFar o_ringTone o_tape o_readFar o_readTone) → va_S A s.heap H locs → ∀ (ls : Array Slot), lv_has ls 6 [(0, .ref h_o), (1, .int v1), (2, .int v2), (4, .int v4)] → okP (f_X7_rings_B89 (f_X7_rings_L54 n54) v1 v2 v4 o_taped o_at o_wrong o_ringFar o_ringTone o_tape o_readFar o_readTone) post → W p l e (headSpec wsX7_rings rm_X7_rings).room s m ([.ref h_o] : List Value).toArray below meth c H locs 0 0 Q (F0 m 89 ls [.ref h_o]) := by
        intro v1 v2 v4 o_taped o_at o_wrong o_ringFar o_ringTone o_readFar o_readTone H locs hP hD hS ls hl hw
        unfold f_X7_rings_B89 at hw
        refine lv_iconst (v := 1) hx hb dX7_rings_89 (by decide) ?_
        refine lv_goto (tgt := 94) hx hb dX7_rings_90 (by decide) ?_
        exact w94 v1 v2 v4 1 o_taped o_at o_wrong o_ringFar o_ringTone o_readFar o_readTone _ _ hP hD hS _ (lv_sub hl [0, 1, 2, 3] rfl) hw
      intro v1 v2 v3 o_taped o_at o_wrong o_ringFar o_ringTone o_readFar o_readTone H locs hP hD hS ls hl hw
      replace hw : okP (f_X7_rings_L54b (f_X7_rings_L54 n54) v1 v2 v3 o_taped o_at o_wrong o_ringFar o_ringTone o_tape o_readFar o_readTone) post := hw
      unfold f_X7_rings_L54b at hw
      refine lv_iload_n hx hb dX7_rings_54 rfl (lv_at hl 3 rfl) ?_
      refine lv_if_eq (tgt := 252) hx hb dX7_rings_55 (by decide) (fun c_35 => ?_) (fun c_35 => ?_)
      · replace hw := okT hw c_35
        clear c_35
        refine lv_aload_n hx hb dX7_rings_252 rfl (lv_at hl 0 rfl) ?_
        refine lv_aload_n hx hb dX7_rings_253 rfl (lv_at hl 0 rfl) ?_
        refine va_get (D := (dC, dI)) (ci := 7) (v := .int o_wrong) (C := RX7) (T := TX7) (N := 42) hx hb hts hi7 hown hK hP 0 rfl rfl 9 (by decide) hq5 (fun _ h9 => h9) rfl dX7_rings_254 ?_
        refine lv_if_ne (tgt := 267) hx hb dX7_rings_257 (by decide) (fun c_36 => ?_) (fun c_36 => ?_)
        · replace hw := okF hw c_36
          clear c_36
          exact w267 v1 o_taped o_at o_wrong o_ringFar o_ringTone o_readFar o_readTone _ _ hP hD hS _ (lv_sub hl [0, 1] rfl) hw
        · replace hw := okT hw c_36
          clear c_36
          refine lv_aload_n hx hb dX7_rings_260 rfl (lv_at hl 0 rfl) ?_
          have hPc := hP.sub (ws' := (W_X7_here cyI cyJ cyO h_o a_o_sets a_o_ringFar a_o_ringTone a_o_currents a_o_warmths a_o_depths a_o_tape a_o_readFar a_o_readTone a_o_readSea a_o_code a_o_cellAt a_o_courseAt a_o_paceAt a_o_turnsAt a_o_slowAt a_o_fuelAt a_o_ringAt a_o_pieceParts a_o_dragCell a_o_dragBy a_o_sums a_o_shares a_o_keptFar a_o_image a_o_lanes a_o_sizes a_o_items a_o_movedItems o_taped o_at o_wrong o_level o_noRings o_noTones o_noFuel o_pieces o_drags o_all o_noPieces o_noDrags o_kept o_tape)) [0, 3] rfl
          have hDc := hD.sub (ws' := (W_X7_here cyI cyJ cyO h_o a_o_sets a_o_ringFar a_o_ringTone a_o_currents a_o_warmths a_o_depths a_o_tape a_o_readFar a_o_readTone a_o_readSea a_o_code a_o_cellAt a_o_courseAt a_o_paceAt a_o_turnsAt a_o_slowAt a_o_fuelAt a_o_ringAt a_o_pieceParts a_o_dragCell a_o_dragBy a_o_sums a_o_shares a_o_keptFar a_o_image a_o_lanes a_o_sizes a_o_items a_o_movedItems o_taped o_at o_wrong o_level o_noRings o_noTones o_noFuel o_pieces o_drags o_all o_noPieces o_noDrags o_kept o_tape)) [0, 3] (by decide +kernel) rfl
          have hFc := va_free (wc := (W_X7_here cyI cyJ cyO h_o a_o_sets a_o_ringFar a_o_ringTone a_o_currents a_o_warmths a_o_depths a_o_tape a_o_readFar a_o_readTone a_o_readSea a_o_code a_o_cellAt a_o_courseAt a_o_paceAt a_o_turnsAt a_o_slowAt a_o_fuelAt a_o_ringAt a_o_pieceParts a_o_dragCell a_o_dragBy a_o_sums a_o_shares a_o_keptFar a_o_image a_o_lanes a_o_sizes a_o_items a_o_movedItems o_taped o_at o_wrong o_level o_noRings o_noTones o_noFuel o_pieces o_drags o_all o_noPieces o_noDrags o_kept o_tape)) hD hS hA [0, 3] rfl
          refine kc_i (wr := [(a_o_ringFar, .inl (cyI, 7, .inl o_ringFar)), (a_o_ringTone, .inl (cyI, 7, .inl o_ringTone)), (a_o_readFar, .inl (cyI, 7, .inl o_readFar)), (a_o_readTone, .inl (cyI, 7, .inl o_readTone))]) (va_runV (As := []) (rest := [.ref h_o]) ⟨hx, hb, hml, hown, hts⟩ (c_X7_here l dC dI cyI cyJ cyO H.size h_o a_o_sets a_o_ringFar a_o_ringTone a_o_currents a_o_warmths a_o_depths a_o_tape a_o_readFar a_o_readTone a_o_readSea a_o_code a_o_cellAt a_o_courseAt a_o_paceAt a_o_turnsAt a_o_slowAt a_o_fuelAt a_o_ringAt a_o_pieceParts a_o_dragCell a_o_dragBy a_o_sums a_o_shares a_o_keptFar a_o_image a_o_lanes a_o_sizes a_o_items a_o_movedItems o_taped o_at o_wrong o_level o_noRings o_noTones o_noFuel o_pieces o_drags o_all o_noPieces o_noDrags o_kept o_tape _ (okb2 hw)) (cwV 0 hts (gdV (fun w h => List.mem_cons_of_mem _ h) q_877 q_879 qs_26 q_8 q_880) rfl rfl rfl (by decide +kernel) ⟨Nat.le_of_ble_eq_true rfl, Nat.le_of_ble_eq_true rfl⟩) ⟨(kpre zN_ok hK hPc hDc trivial hS hFc).1, va_recv hK hP (ci := 7) (q0 := 0) rfl rfl, (kpre zN_ok hK hPc hDc trivial hS hFc).2⟩ rfl rfl hl.1 rfl (lv_room (Nat.le_of_ble_eq_true rfl)) dX7_rings_261 ⟨Nat.le_of_ble_eq_true rfl, Nat.le_of_ble_eq_true rfl⟩) hP hD hS hFc [0, 3] [1, 2, 4, 5] rfl rfl (by decide +kernel) (by decide +kernel) (fun r_37 w_38 H locs hw hP hD hS => ?_)
          try dsimp only at hw
          have hP : va_P (dC, dI) vwCl (W_X7_rings cyI cyJ cyO h_o a_o_sets a_o_ringFar a_o_ringTone a_o_currents a_o_warmths a_o_depths a_o_tape a_o_readFar a_o_readTone a_o_readSea a_o_code a_o_cellAt a_o_courseAt a_o_paceAt a_o_turnsAt a_o_slowAt a_o_fuelAt a_o_ringAt a_o_pieceParts a_o_dragCell a_o_dragBy a_o_sums a_o_shares a_o_keptFar a_o_image a_o_lanes a_o_sizes a_o_items a_o_movedItems o_taped w_38 o_wrong o_level o_noRings o_noTones o_noFuel o_pieces o_drags o_all o_noPieces o_noDrags o_kept o_ringFar o_ringTone o_tape o_readFar o_readTone) H := hP.sub [4, 0, 1, 5, 2, 3] rfl
          have hD : va_D A (W_X7_rings cyI cyJ cyO h_o a_o_sets a_o_ringFar a_o_ringTone a_o_currents a_o_warmths a_o_depths a_o_tape a_o_readFar a_o_readTone a_o_readSea a_o_code a_o_cellAt a_o_courseAt a_o_paceAt a_o_turnsAt a_o_slowAt a_o_fuelAt a_o_ringAt a_o_pieceParts a_o_dragCell a_o_dragBy a_o_sums a_o_shares a_o_keptFar a_o_image a_o_lanes a_o_sizes a_o_items a_o_movedItems o_taped w_38 o_wrong o_level o_noRings o_noTones o_noFuel o_pieces o_drags o_all o_noPieces o_noDrags o_kept o_ringFar o_ringTone o_tape o_readFar o_readTone) := hD.sub [4, 0, 1, 5, 2, 3] (by decide +kernel) rfl
          clear hPc hDc hFc
          refine lv_if_eq (tgt := 271) hx hb dX7_rings_264 (by decide) (fun c_39 => ?_) (fun c_39 => ?_)
          · replace hw := okT hw c_39
            clear c_39
            refine lv_iconst (v := 0) hx hb dX7_rings_271 (by decide) ?_
            exact w272 v1 0 o_taped w_38 o_wrong o_ringFar o_ringTone o_readFar o_readTone _ _ hP hD hS _ (lv_sub hl [0, 1] rfl) hw
          · replace hw := okF hw c_39
            clear c_39
            exact w267 v1 o_taped w_38 o_wrong o_ringFar o_ringTone o_readFar o_readTone _ _ hP hD hS _ (lv_sub hl [0, 1] rfl) hw
      · replace hw := okF hw c_35
        clear c_35
        refine lv_aload_n hx hb dX7_rings_58 rfl (lv_at hl 0 rfl) ?_
        refine lv_iload_n hx hb dX7_rings_59 rfl (lv_at hl 2 rfl) ?_
        refine lv_iconst (v := 1) hx hb dX7_rings_60 (by decide) ?_
        refine lv_iadd hx hb dX7_rings_61 ?_
        refine lv_bipush (v := 6) hx hb dX7_rings_62 (by decide) ?_
        have hPc := hP.sub (ws' := (W_X7_digit cyI cyJ cyO h_o a_o_sets a_o_ringFar a_o_ringTone a_o_currents a_o_warmths a_o_depths a_o_tape a_o_readFar a_o_readTone a_o_readSea a_o_code a_o_cellAt a_o_courseAt a_o_paceAt a_o_turnsAt a_o_slowAt a_o_fuelAt a_o_ringAt a_o_pieceParts a_o_dragCell a_o_dragBy a_o_sums a_o_shares a_o_keptFar a_o_image a_o_lanes a_o_sizes a_o_items a_o_movedItems o_taped o_at o_wrong o_level o_noRings o_noTones o_noFuel o_pieces o_drags o_all o_noPieces o_noDrags o_kept o_tape)) [0, 3] rfl
        have hDc := hD.sub (ws' := (W_X7_digit cyI cyJ cyO h_o a_o_sets a_o_ringFar a_o_ringTone a_o_currents a_o_warmths a_o_depths a_o_tape a_o_readFar a_o_readTone a_o_readSea a_o_code a_o_cellAt a_o_courseAt a_o_paceAt a_o_turnsAt a_o_slowAt a_o_fuelAt a_o_ringAt a_o_pieceParts a_o_dragCell a_o_dragBy a_o_sums a_o_shares a_o_keptFar a_o_image a_o_lanes a_o_sizes a_o_items a_o_movedItems o_taped o_at o_wrong o_level o_noRings o_noTones o_noFuel o_pieces o_drags o_all o_noPieces o_noDrags o_kept o_tape)) [0, 3] (by decide +kernel) rfl
        have hFc := va_free (wc := (W_X7_digit cyI cyJ cyO h_o a_o_sets a_o_ringFar a_o_ringTone a_o_currents a_o_warmths a_o_depths a_o_tape a_o_readFar a_o_readTone a_o_readSea a_o_code a_o_cellAt a_o_courseAt a_o_paceAt a_o_turnsAt a_o_slowAt a_o_fuelAt a_o_ringAt a_o_pieceParts a_o_dragCell a_o_dragBy a_o_sums a_o_shares a_o_keptFar a_o_image a_o_lanes a_o_sizes a_o_items a_o_movedItems o_taped o_at o_wrong o_level o_noRings o_noTones o_noFuel o_pieces o_drags o_all o_noPieces o_noDrags o_kept o_tape)) hD hS hA [0, 3] rfl
        refine kc_i (wr := [(a_o_ringFar, .inl (cyI, 7, .inl o_ringFar)), (a_o_ringTone, .inl (cyI, 7, .inl o_ringTone)), (a_o_readFar, .inl (cyI, 7, .inl o_readFar)), (a_o_readTone, .inl (cyI, 7, .inl o_readTone))]) (va_runV (As := [.int (v2 + 1), .int 6]) (rest := []) ⟨hx, hb, hml, hown, hts⟩ (c_X7_digit l dC dI cyI cyJ cyO H.size h_o a_o_sets a_o_ringFar a_o_ringTone a_o_currents a_o_warmths a_o_depths a_o_tape a_o_readFar a_o_readTone a_o_readSea a_o_code a_o_cellAt a_o_courseAt a_o_paceAt a_o_turnsAt a_o_slowAt a_o_fuelAt a_o_ringAt a_o_pieceParts a_o_dragCell a_o_dragBy a_o_sums a_o_shares a_o_keptFar a_o_image a_o_lanes a_o_sizes a_o_items a_o_movedItems o_taped o_at o_wrong o_level o_noRings o_noTones o_noFuel o_pieces o_drags o_all o_noPieces o_noDrags o_kept o_tape (v2 + 1) 6 _ (okb3 hw)) (cwV 2 hts (gdV (fun w h => List.mem_cons_of_mem _ h) q_873 q_875 qs_25 q_8 q_876) rfl rfl rfl (by decide +kernel) ⟨Nat.le_of_ble_eq_true rfl, Nat.le_of_ble_eq_true rfl⟩) ⟨(kpre zN_ok hK hPc hDc trivial hS hFc).1, va_recv hK hP (ci := 7) (q0 := 0) rfl rfl, (kpre zN_ok hK hPc hDc trivial hS hFc).2⟩ rfl rfl hl.1 rfl (lv_room (Nat.le_of_ble_eq_true rfl)) dX7_rings_64 ⟨Nat.le_of_ble_eq_true rfl, Nat.le_of_ble_eq_true rfl⟩) hP hD hS hFc [0, 3] [1, 2, 4, 5] rfl rfl (by decide +kernel) (by decide +kernel) (fun r_40 u H locs hw hP hD hS => ?_)
        obtain ⟨w_41, w_42⟩ := u
        try dsimp only at hw
        have hP : va_P (dC, dI) vwCl (W_X7_rings cyI cyJ cyO h_o a_o_sets a_o_ringFar a_o_ringTone a_o_currents a_o_warmths a_o_depths a_o_tape a_o_readFar a_o_readTone a_o_readSea a_o_code a_o_cellAt a_o_courseAt a_o_paceAt a_o_turnsAt a_o_slowAt a_o_fuelAt a_o_ringAt a_o_pieceParts a_o_dragCell a_o_dragBy a_o_sums a_o_shares a_o_keptFar a_o_image a_o_lanes a_o_sizes a_o_items a_o_movedItems o_taped w_41 w_42 o_level o_noRings o_noTones o_noFuel o_pieces o_drags o_all o_noPieces o_noDrags o_kept o_ringFar o_ringTone o_tape o_readFar o_readTone) H := hP.sub [4, 0, 1, 5, 2, 3] rfl
        have hD : va_D A (W_X7_rings cyI cyJ cyO h_o a_o_sets a_o_ringFar a_o_ringTone a_o_currents a_o_warmths a_o_depths a_o_tape a_o_readFar a_o_readTone a_o_readSea a_o_code a_o_cellAt a_o_courseAt a_o_paceAt a_o_turnsAt a_o_slowAt a_o_fuelAt a_o_ringAt a_o_pieceParts a_o_dragCell a_o_dragBy a_o_sums a_o_shares a_o_keptFar a_o_image a_o_lanes a_o_sizes a_o_items a_o_movedItems o_taped w_41 w_42 o_level o_noRings o_noTones o_noFuel o_pieces o_drags o_all o_noPieces o_noDrags o_kept o_ringFar o_ringTone o_tape o_readFar o_readTone) := hD.sub [4, 0, 1, 5, 2, 3] (by decide +kernel) rfl
        clear hPc hDc hFc
        refine lv_istore (lv' := [(4, .int r_40), (0, .ref h_o), (1, .int v1), (2, .int v2), (3, .int v3)]) hx hb dX7_rings_67 hl (by decide) rfl (fun ls hl => ?_)
        refine lv_iload hx hb dX7_rings_69 (lv_at hl 0 rfl) ?_
        refine lv_istore_n (lv' := [(2, .int r_40), (4, .int r_40), (0, .ref h_o), (1, .int v1), (3, .int v3)]) hx hb dX7_rings_71 rfl hl (by decide) rfl (fun ls hl => ?_)
        refine lv_aload_n hx hb dX7_rings_72 rfl (lv_at hl 2 rfl) ?_
        refine lv_aload_n hx hb dX7_rings_73 rfl (lv_at hl 2 rfl) ?_
        refine va_get (D := (dC, dI)) (ci := 7) (v := .int w_42) (C := RX7) (T := TX7) (N := 42) hx hb hts hi7 hown hK hP 0 rfl rfl 9 (by decide) hq5 (fun _ h9 => h9) rfl dX7_rings_74 ?_
        refine lv_if_ne (tgt := 89) hx hb dX7_rings_77 (by decide) (fun c_43 => ?_) (fun c_43 => ?_)
        · replace hw := okF hw c_43
          clear c_43
          exact w89 v1 r_40 r_40 o_taped w_41 w_42 o_ringFar o_ringTone o_readFar o_readTone _ _ hP hD hS _ (lv_sub hl [2, 3, 0, 1] rfl) hw
        · replace hw := okT hw c_43
          clear c_43
          refine lv_aload_n hx hb dX7_rings_80 rfl (lv_at hl 2 rfl) ?_
          have hPc := hP.sub (ws' := (W_X7_here cyI cyJ cyO h_o a_o_sets a_o_ringFar a_o_ringTone a_o_currents a_o_warmths a_o_depths a_o_tape a_o_readFar a_o_readTone a_o_readSea a_o_code a_o_cellAt a_o_courseAt a_o_paceAt a_o_turnsAt a_o_slowAt a_o_fuelAt a_o_ringAt a_o_pieceParts a_o_dragCell a_o_dragBy a_o_sums a_o_shares a_o_keptFar a_o_image a_o_lanes a_o_sizes a_o_items a_o_movedItems o_taped w_41 w_42 o_level o_noRings o_noTones o_noFuel o_pieces o_drags o_all o_noPieces o_noDrags o_kept o_tape)) [0, 3] rfl
          have hDc := hD.sub (ws' := (W_X7_here cyI cyJ cyO h_o a_o_sets a_o_ringFar a_o_ringTone a_o_currents a_o_warmths a_o_depths a_o_tape a_o_readFar a_o_readTone a_o_readSea a_o_code a_o_cellAt a_o_courseAt a_o_paceAt a_o_turnsAt a_o_slowAt a_o_fuelAt a_o_ringAt a_o_pieceParts a_o_dragCell a_o_dragBy a_o_sums a_o_shares a_o_keptFar a_o_image a_o_lanes a_o_sizes a_o_items a_o_movedItems o_taped w_41 w_42 o_level o_noRings o_noTones o_noFuel o_pieces o_drags o_all o_noPieces o_noDrags o_kept o_tape)) [0, 3] (by decide +kernel) rfl
          have hFc := va_free (wc := (W_X7_here cyI cyJ cyO h_o a_o_sets a_o_ringFar a_o_ringTone a_o_currents a_o_warmths a_o_depths a_o_tape a_o_readFar a_o_readTone a_o_readSea a_o_code a_o_cellAt a_o_courseAt a_o_paceAt a_o_turnsAt a_o_slowAt a_o_fuelAt a_o_ringAt a_o_pieceParts a_o_dragCell a_o_dragBy a_o_sums a_o_shares a_o_keptFar a_o_image a_o_lanes a_o_sizes a_o_items a_o_movedItems o_taped w_41 w_42 o_level o_noRings o_noTones o_noFuel o_pieces o_drags o_all o_noPieces o_noDrags o_kept o_tape)) hD hS hA [0, 3] rfl
          refine kc_i (wr := [(a_o_ringFar, .inl (cyI, 7, .inl o_ringFar)), (a_o_ringTone, .inl (cyI, 7, .inl o_ringTone)), (a_o_readFar, .inl (cyI, 7, .inl o_readFar)), (a_o_readTone, .inl (cyI, 7, .inl o_readTone))]) (va_runV (As := []) (rest := [.ref h_o]) ⟨hx, hb, hml, hown, hts⟩ (c_X7_here l dC dI cyI cyJ cyO H.size h_o a_o_sets a_o_ringFar a_o_ringTone a_o_currents a_o_warmths a_o_depths a_o_tape a_o_readFar a_o_readTone a_o_readSea a_o_code a_o_cellAt a_o_courseAt a_o_paceAt a_o_turnsAt a_o_slowAt a_o_fuelAt a_o_ringAt a_o_pieceParts a_o_dragCell a_o_dragBy a_o_sums a_o_shares a_o_keptFar a_o_image a_o_lanes a_o_sizes a_o_items a_o_movedItems o_taped w_41 w_42 o_level o_noRings o_noTones o_noFuel o_pieces o_drags o_all o_noPieces o_noDrags o_kept o_tape _ (okb2 hw)) (cwV 0 hts (gdV (fun w h => List.mem_cons_of_mem _ h) q_877 q_879 qs_26 q_8 q_880) rfl rfl rfl (by decide +kernel) ⟨Nat.le_of_ble_eq_true rfl, Nat.le_of_ble_eq_true rfl⟩) ⟨(kpre zN_ok hK hPc hDc trivial hS hFc).1, va_recv hK hP (ci := 7) (q0 := 0) rfl rfl, (kpre zN_ok hK hPc hDc trivial hS hFc).2⟩ rfl rfl hl.1 rfl (lv_room (Nat.le_of_ble_eq_true rfl)) dX7_rings_81 ⟨Nat.le_of_ble_eq_true rfl, Nat.le_of_ble_eq_true rfl⟩) hP hD hS hFc [0, 3] [1, 2, 4, 5] rfl rfl (by decide +kernel) (by decide +kernel) (fun r_44 w_45 H locs hw hP hD hS => ?_)
          try dsimp only at hw
          have hP : va_P (dC, dI) vwCl (W_X7_rings cyI cyJ cyO h_o a_o_sets a_o_ringFar a_o_ringTone a_o_currents a_o_warmths a_o_depths a_o_tape a_o_readFar a_o_readTone a_o_readSea a_o_code a_o_cellAt a_o_courseAt a_o_paceAt a_o_turnsAt a_o_slowAt a_o_fuelAt a_o_ringAt a_o_pieceParts a_o_dragCell a_o_dragBy a_o_sums a_o_shares a_o_keptFar a_o_image a_o_lanes a_o_sizes a_o_items a_o_movedItems o_taped w_45 w_42 o_level o_noRings o_noTones o_noFuel o_pieces o_drags o_all o_noPieces o_noDrags o_kept o_ringFar o_ringTone o_tape o_readFar o_readTone) H := hP.sub [4, 0, 1, 5, 2, 3] rfl
          have hD : va_D A (W_X7_rings cyI cyJ cyO h_o a_o_sets a_o_ringFar a_o_ringTone a_o_currents a_o_warmths a_o_depths a_o_tape a_o_readFar a_o_readTone a_o_readSea a_o_code a_o_cellAt a_o_courseAt a_o_paceAt a_o_turnsAt a_o_slowAt a_o_fuelAt a_o_ringAt a_o_pieceParts a_o_dragCell a_o_dragBy a_o_sums a_o_shares a_o_keptFar a_o_image a_o_lanes a_o_sizes a_o_items a_o_movedItems o_taped w_45 w_42 o_level o_noRings o_noTones o_noFuel o_pieces o_drags o_all o_noPieces o_noDrags o_kept o_ringFar o_ringTone o_tape o_readFar o_readTone) := hD.sub [4, 0, 1, 5, 2, 3] (by decide +kernel) rfl
          clear hPc hDc hFc
          refine lv_bipush (v := 58) hx hb dX7_rings_84 (by decide) ?_
          refine lv_icmp_eq (tgt := 93) hx hb dX7_rings_86 (by decide) (fun c_46 => ?_) (fun c_46 => ?_)
          · replace hw := okT hw c_46
            clear c_46
            refine lv_iconst (v := 0) hx hb dX7_rings_93 (by decide) ?_
            exact w94 v1 r_40 r_40 0 o_taped w_45 w_42 o_ringFar o_ringTone o_readFar o_readTone _ _ hP hD hS _ (lv_sub hl [2, 3, 0, 1] rfl) hw
          · replace hw := okF hw c_46
            clear c_46
            exact w89 v1 r_40 r_40 o_taped w_45 w_42 o_ringFar o_ringTone o_readFar o_readTone _ _ hP hD hS _ (lv_sub hl [2, 3, 0, 1] rfl) hw
  have w2 : ∀ (n : Nat), ∀ (v1 : Int32) (o_taped : Int32) (o_at : Int32) (o_wrong : Int32) (o_ringFar : Nat → Int32) (o_ringTone : Nat → Int32) (o_readFar : Nat → Int32) (o_readTone : Nat → Int32) (H : Heap) (locs : List Loc), va_P (dC, dI) vwCl (W_X7_rings cyI cyJ cyO h_o a_o_sets a_o_ringFar a_o_ringTone a_o_currents a_o_warmths a_o_depths a_o_tape a_o_readFar a_o_readTone a_o_readSea a_o_code a_o_cellAt a_o_courseAt a_o_paceAt a_o_turnsAt a_o_slowAt a_o_fuelAt a_o_ringAt a_o_pieceParts a_o_dragCell a_o_dragBy a_o_sums a_o_shares a_o_keptFar a_o_image a_o_lanes a_o_sizes a_o_items a_o_movedItems o_taped o_at o_wrong o_level o_noRings o_noTones o_noFuel o_pieces o_drags o_all o_noPieces o_noDrags o_kept o_ringFar o_ringTone o_tape o_readFar o_readTone) H → va_D A (W_X7_rings cyI cyJ cyO h_o a_o_sets a_o_ringFar a_o_ringTone a_o_currents a_o_warmths a_o_depths a_o_tape a_o_readFar a_o_readTone a_o_readSea a_o_code a_o_cellAt a_o_courseAt a_o_paceAt a_o_turnsAt a_o_slowAt a_o_fuelAt a_o_ringAt a_o_pieceParts a_o_dragCell a_o_dragBy a_o_sums a_o_shares a_o_keptFar a_o_image a_o_lanes a_o_sizes a_o_items a_o_movedItems o_taped o_at o_wrong o_level o_noRings o_noTones o_noFuel o_pieces o_drags o_all o_noPieces o_noDrags o_kept o_ringFar o_ringTone o_tape o_readFar o_readTone) → va_S A s.heap H locs → ∀ (ls : Array Slot), lv_has ls 6 [(0, .ref h_o), (1, .int v1)] → okP (f_X7_rings_L2 n v1 o_taped o_at o_wrong o_ringFar o_ringTone o_tape o_readFar o_readTone) post → W p l e (headSpec wsX7_rings rm_X7_rings).room s m ([.ref h_o] : List Value).toArray below meth c H locs 0 0 Q (F0 m 2 ls []) := by
    intro n
    induction n with
    | zero =>
      intro v1 o_taped o_at o_wrong o_ringFar o_ringTone o_readFar o_readTone H locs hP hD hS ls hl hw
      exact (ok0 hw).elim
    | succ n2 ih2 =>
      intro v1 o_taped o_at o_wrong o_ringFar o_ringTone o_readFar o_readTone H locs hP hD hS ls hl hw
      replace hw : okP (f_X7_rings_L2b (f_X7_rings_L2 n2) v1 o_taped o_at o_wrong o_ringFar o_ringTone o_tape o_readFar o_readTone) post := hw
      unfold f_X7_rings_L2b at hw
      refine lv_iload_n hx hb dX7_rings_2 rfl (lv_at hl 1 rfl) ?_
      refine lv_bipush (v := 7) hx hb dX7_rings_3 (by decide) ?_
      refine lv_icmp_ge (tgt := 38) hx hb dX7_rings_5 (by decide) (fun c_47 => ?_) (fun c_47 => ?_)
      · replace hw := okT hw c_47
        clear c_47
        refine lv_aload_n hx hb dX7_rings_38 rfl (lv_at hl 0 rfl) ?_
        refine lv_iconst (v := 0) hx hb dX7_rings_39 (by decide) ?_
        refine va_put (D := (dC, dI)) (ci := 7) (v := .int 0) (ty := .int) (C := RX7) (T := TX7) (N := 42) hx hb hts hi7 tyX7 tyX7_ok nmX7 hown hK hP hD hS 0 rfl rfl 8 (by decide) hq7 (fun _ h9 => h9) rfl (by decide +kernel) rfl rfl (Nat.le_of_ble_eq_true rfl) dX7_rings_40 (fun H locs hP hD hS => ?_)
        have hP : va_P (dC, dI) vwCl (W_X7_rings cyI cyJ cyO h_o a_o_sets a_o_ringFar a_o_ringTone a_o_currents a_o_warmths a_o_depths a_o_tape a_o_readFar a_o_readTone a_o_readSea a_o_code a_o_cellAt a_o_courseAt a_o_paceAt a_o_turnsAt a_o_slowAt a_o_fuelAt a_o_ringAt a_o_pieceParts a_o_dragCell a_o_dragBy a_o_sums a_o_shares a_o_keptFar a_o_image a_o_lanes a_o_sizes a_o_items a_o_movedItems o_taped 0 o_wrong o_level o_noRings o_noTones o_noFuel o_pieces o_drags o_all o_noPieces o_noDrags o_kept o_ringFar o_ringTone o_tape o_readFar o_readTone) H := hP
        have hD : va_D A (W_X7_rings cyI cyJ cyO h_o a_o_sets a_o_ringFar a_o_ringTone a_o_currents a_o_warmths a_o_depths a_o_tape a_o_readFar a_o_readTone a_o_readSea a_o_code a_o_cellAt a_o_courseAt a_o_paceAt a_o_turnsAt a_o_slowAt a_o_fuelAt a_o_ringAt a_o_pieceParts a_o_dragCell a_o_dragBy a_o_sums a_o_shares a_o_keptFar a_o_image a_o_lanes a_o_sizes a_o_items a_o_movedItems o_taped 0 o_wrong o_level o_noRings o_noTones o_noFuel o_pieces o_drags o_all o_noPieces o_noDrags o_kept o_ringFar o_ringTone o_tape o_readFar o_readTone) := hD
        refine lv_aload_n hx hb dX7_rings_43 rfl (lv_at hl 0 rfl) ?_
        refine lv_iconst (v := 0) hx hb dX7_rings_44 (by decide) ?_
        refine va_put (D := (dC, dI)) (ci := 7) (v := .int 0) (ty := .boolean) (C := RX7) (T := TX7) (N := 42) hx hb hts hi7 tyX7 tyX7_ok nmX7 hown hK hP hD hS 0 rfl rfl 9 (by decide) hq5 (fun _ h9 => h9) rfl (by decide +kernel) rfl rfl (Nat.le_of_ble_eq_true rfl) dX7_rings_45 (fun H locs hP hD hS => ?_)
        have hP : va_P (dC, dI) vwCl (W_X7_rings cyI cyJ cyO h_o a_o_sets a_o_ringFar a_o_ringTone a_o_currents a_o_warmths a_o_depths a_o_tape a_o_readFar a_o_readTone a_o_readSea a_o_code a_o_cellAt a_o_courseAt a_o_paceAt a_o_turnsAt a_o_slowAt a_o_fuelAt a_o_ringAt a_o_pieceParts a_o_dragCell a_o_dragBy a_o_sums a_o_shares a_o_keptFar a_o_image a_o_lanes a_o_sizes a_o_items a_o_movedItems o_taped 0 0 o_level o_noRings o_noTones o_noFuel o_pieces o_drags o_all o_noPieces o_noDrags o_kept o_ringFar o_ringTone o_tape o_readFar o_readTone) H := hP
        have hD : va_D A (W_X7_rings cyI cyJ cyO h_o a_o_sets a_o_ringFar a_o_ringTone a_o_currents a_o_warmths a_o_depths a_o_tape a_o_readFar a_o_readTone a_o_readSea a_o_code a_o_cellAt a_o_courseAt a_o_paceAt a_o_turnsAt a_o_slowAt a_o_fuelAt a_o_ringAt a_o_pieceParts a_o_dragCell a_o_dragBy a_o_sums a_o_shares a_o_keptFar a_o_image a_o_lanes a_o_sizes a_o_items a_o_movedItems o_taped 0 0 o_level o_noRings o_noTones o_noFuel o_pieces o_drags o_all o_noPieces o_noDrags o_kept o_ringFar o_ringTone o_tape o_readFar o_readTone) := hD
        refine lv_iconst (v := 0) hx hb dX7_rings_48 (by decide) ?_
        refine lv_istore_n (lv' := [(1, .int 0), (0, .ref h_o)]) hx hb dX7_rings_49 rfl hl (by decide) rfl (fun ls hl => ?_)
        refine lv_iconst (v := 0) hx hb dX7_rings_50 (by decide) ?_
        refine lv_istore_n (lv' := [(2, .int 0), (1, .int 0), (0, .ref h_o)]) hx hb dX7_rings_51 rfl hl (by decide) rfl (fun ls hl => ?_)
        refine lv_iconst (v := 1) hx hb dX7_rings_52 (by decide) ?_
        refine lv_istore_n (lv' := [(3, .int 1), (2, .int 0), (1, .int 0), (0, .ref h_o)]) hx hb dX7_rings_53 rfl hl (by decide) rfl (fun ls hl => ?_)
        exact w54 FU 0 0 1 o_taped 0 0 o_ringFar o_ringTone o_readFar o_readTone _ _ hP hD hS _ (lv_sub hl [3, 2, 1, 0] rfl) hw
      · replace hw := okF hw c_47
        clear c_47
        refine lv_aload_n hx hb dX7_rings_8 rfl (lv_at hl 0 rfl) ?_
        refine va_get (D := (dC, dI)) (ci := 7) (v := .ref a_o_readFar) (C := RX7) (T := TX7) (N := 42) hx hb hts hi7 hown hK hP 0 rfl rfl 10 (by decide) hq2 (fun _ h9 => h9) rfl dX7_rings_9 ?_
        refine lv_iload_n hx hb dX7_rings_12 rfl (lv_at hl 1 rfl) ?_
        refine lv_aload_n hx hb dX7_rings_13 rfl (lv_at hl 0 rfl) ?_
        refine va_get (D := (dC, dI)) (ci := 7) (v := .ref a_o_ringFar) (C := RX7) (T := TX7) (N := 42) hx hb hts hi7 hown hK hP 0 rfl rfl 1 (by decide) hq0 (fun _ h9 => h9) rfl dX7_rings_14 ?_
        refine lv_iload_n hx hb dX7_rings_17 rfl (lv_at hl 1 rfl) ?_
        obtain ⟨h_48, hw⟩ := okC hw
        refine va_iald (i := v1) hx hb hK hP 1 0 rfl rfl h_48 dX7_rings_18 ?_
        refine lv_topi (fun x_49 ex_49 => ?_)
        replace hw := okN ex_49 hw
        clear ex_49
        obtain ⟨h_50, hw⟩ := okC hw
        refine va_iast (i := v1) (x := x_49) hx hb hK hP hD hS 4 0 rfl rfl h_50 dX7_rings_19 (fun H locs hP hD hS => ?_)
        have hP : va_P (dC, dI) vwCl (W_X7_rings cyI cyJ cyO h_o a_o_sets a_o_ringFar a_o_ringTone a_o_currents a_o_warmths a_o_depths a_o_tape a_o_readFar a_o_readTone a_o_readSea a_o_code a_o_cellAt a_o_courseAt a_o_paceAt a_o_turnsAt a_o_slowAt a_o_fuelAt a_o_ringAt a_o_pieceParts a_o_dragCell a_o_dragBy a_o_sums a_o_shares a_o_keptFar a_o_image a_o_lanes a_o_sizes a_o_items a_o_movedItems o_taped o_at o_wrong o_level o_noRings o_noTones o_noFuel o_pieces o_drags o_all o_noPieces o_noDrags o_kept o_ringFar o_ringTone o_tape (upd o_readFar v1.toNatClampNeg x_49) o_readTone) H := hP
        have hD : va_D A (W_X7_rings cyI cyJ cyO h_o a_o_sets a_o_ringFar a_o_ringTone a_o_currents a_o_warmths a_o_depths a_o_tape a_o_readFar a_o_readTone a_o_readSea a_o_code a_o_cellAt a_o_courseAt a_o_paceAt a_o_turnsAt a_o_slowAt a_o_fuelAt a_o_ringAt a_o_pieceParts a_o_dragCell a_o_dragBy a_o_sums a_o_shares a_o_keptFar a_o_image a_o_lanes a_o_sizes a_o_items a_o_movedItems o_taped o_at o_wrong o_level o_noRings o_noTones o_noFuel o_pieces o_drags o_all o_noPieces o_noDrags o_kept o_ringFar o_ringTone o_tape (upd o_readFar v1.toNatClampNeg x_49) o_readTone) := hD
        refine lv_aload_n hx hb dX7_rings_20 rfl (lv_at hl 0 rfl) ?_
        refine va_get (D := (dC, dI)) (ci := 7) (v := .ref a_o_readTone) (C := RX7) (T := TX7) (N := 42) hx hb hts hi7 hown hK hP 0 rfl rfl 11 (by decide) hq4 (fun _ h9 => h9) rfl dX7_rings_21 ?_
        refine lv_iload_n hx hb dX7_rings_24 rfl (lv_at hl 1 rfl) ?_
        refine lv_aload_n hx hb dX7_rings_25 rfl (lv_at hl 0 rfl) ?_
        refine va_get (D := (dC, dI)) (ci := 7) (v := .ref a_o_ringTone) (C := RX7) (T := TX7) (N := 42) hx hb hts hi7 hown hK hP 0 rfl rfl 2 (by decide) hq3 (fun _ h9 => h9) rfl dX7_rings_26 ?_
        refine lv_iload_n hx hb dX7_rings_29 rfl (lv_at hl 1 rfl) ?_
        obtain ⟨h_51, hw⟩ := okC hw
        refine va_iald (i := v1) hx hb hK hP 2 0 rfl rfl h_51 dX7_rings_30 ?_
        refine lv_topi (fun x_52 ex_52 => ?_)
        replace hw := okN ex_52 hw
        clear ex_52
        obtain ⟨h_53, hw⟩ := okC hw
        refine va_iast (i := v1) (x := x_52) hx hb hK hP hD hS 5 0 rfl rfl h_53 dX7_rings_31 (fun H locs hP hD hS => ?_)
        have hP : va_P (dC, dI) vwCl (W_X7_rings cyI cyJ cyO h_o a_o_sets a_o_ringFar a_o_ringTone a_o_currents a_o_warmths a_o_depths a_o_tape a_o_readFar a_o_readTone a_o_readSea a_o_code a_o_cellAt a_o_courseAt a_o_paceAt a_o_turnsAt a_o_slowAt a_o_fuelAt a_o_ringAt a_o_pieceParts a_o_dragCell a_o_dragBy a_o_sums a_o_shares a_o_keptFar a_o_image a_o_lanes a_o_sizes a_o_items a_o_movedItems o_taped o_at o_wrong o_level o_noRings o_noTones o_noFuel o_pieces o_drags o_all o_noPieces o_noDrags o_kept o_ringFar o_ringTone o_tape (upd o_readFar v1.toNatClampNeg x_49) (upd o_readTone v1.toNatClampNeg x_52)) H := hP
        have hD : va_D A (W_X7_rings cyI cyJ cyO h_o a_o_sets a_o_ringFar a_o_ringTone a_o_currents a_o_warmths a_o_depths a_o_tape a_o_readFar a_o_readTone a_o_readSea a_o_code a_o_cellAt a_o_courseAt a_o_paceAt a_o_turnsAt a_o_slowAt a_o_fuelAt a_o_ringAt a_o_pieceParts a_o_dragCell a_o_dragBy a_o_sums a_o_shares a_o_keptFar a_o_image a_o_lanes a_o_sizes a_o_items a_o_movedItems o_taped o_at o_wrong o_level o_noRings o_noTones o_noFuel o_pieces o_drags o_all o_noPieces o_noDrags o_kept o_ringFar o_ringTone o_tape (upd o_readFar v1.toNatClampNeg x_49) (upd o_readTone v1.toNatClampNeg x_52)) := hD
        obtain ⟨x_54, ex_54⟩ : ∃ y : Int32, y = v1 + 1 := ⟨_, rfl⟩
        replace hw := okN ex_54 hw
        refine lv_iinc (v := x_54) (lv' := [(1, .int x_54), (0, .ref h_o)]) hx hb dX7_rings_32 hl (k := 1) rfl (by rw [ex_54]; rfl) (by decide) rfl (fun ls hl => ?_)
        clear ex_54
        refine lv_goto (tgt := 2) hx hb dX7_rings_35 (by decide) ?_
        exact ih2 x_54 o_taped o_at o_wrong o_ringFar o_ringTone (upd o_readFar v1.toNatClampNeg x_49) (upd o_readTone v1.toNatClampNeg x_52) _ _ hP hD hS _ (lv_sub hl [1, 0] rfl) hw
  unfold f_X7_rings at hw
  have hP : va_P (dC, dI) vwCl (W_X7_rings cyI cyJ cyO h_o a_o_sets a_o_ringFar a_o_ringTone a_o_currents a_o_warmths a_o_depths a_o_tape a_o_readFar a_o_readTone a_o_readSea a_o_code a_o_cellAt a_o_courseAt a_o_paceAt a_o_turnsAt a_o_slowAt a_o_fuelAt a_o_ringAt a_o_pieceParts a_o_dragCell a_o_dragBy a_o_sums a_o_shares a_o_keptFar a_o_image a_o_lanes a_o_sizes a_o_items a_o_movedItems o_taped o_at o_wrong o_level o_noRings o_noTones o_noFuel o_pieces o_drags o_all o_noPieces o_noDrags o_kept o_ringFar o_ringTone o_tape o_readFar o_readTone) s.heap := hP
  obtain ⟨H, hH⟩ : ∃ H, H = s.heap := ⟨_, rfl⟩
  obtain ⟨locs, hlo⟩ : ∃ x : List Loc, x = [] := ⟨_, rfl⟩
  have hP : va_P (dC, dI) vwCl (W_X7_rings cyI cyJ cyO h_o a_o_sets a_o_ringFar a_o_ringTone a_o_currents a_o_warmths a_o_depths a_o_tape a_o_readFar a_o_readTone a_o_readSea a_o_code a_o_cellAt a_o_courseAt a_o_paceAt a_o_turnsAt a_o_slowAt a_o_fuelAt a_o_ringAt a_o_pieceParts a_o_dragCell a_o_dragBy a_o_sums a_o_shares a_o_keptFar a_o_image a_o_lanes a_o_sizes a_o_items a_o_movedItems o_taped o_at o_wrong o_level o_noRings o_noTones o_noFuel o_pieces o_drags o_all o_noPieces o_noDrags o_kept o_ringFar o_ringTone o_tape o_readFar o_readTone) H := by rw [hH]; exact hP
  have hS : va_S A s.heap H locs := by rw [hH, hlo]; exact hS
  refine kH hH hlo ?_
  clear hH hlo
  refine lv_iconst (v := 0) hx hb dX7_rings_0 (by decide) ?_
  refine lv_istore_n (lv' := [(1, .int 0), (0, .ref h_o)]) hx hb dX7_rings_1 rfl hl (by decide) rfl (fun ls hl => ?_)
  exact w2 FU 0 o_taped o_at o_wrong o_ringFar o_ringTone o_readFar o_readTone _ _ hP hD hS _ (lv_sub hl [1, 0] rfl) hw
/-! ===== X7_sea ===== -/
theorem dX7_sea_0 : decode cX7_sea 0 = .ok (.iload_n 1, 1) := by decide +kernel
theorem dX7_sea_1 : decode cX7_sea 1 = .ok (.i2l, 1) := by decide +kernel
theorem dX7_sea_2 : decode cX7_sea 2 = .ok (.lconst 0, 1) := by decide +kernel
theorem dX7_sea_3 : decode cX7_sea 3 = .ok (.lconst 1, 1) := by decide +kernel
theorem dX7_sea_4 : decode cX7_sea 4 = .ok (.invokestatic 100, 3) := by decide +kernel
theorem dX7_sea_7 : decode cX7_sea 7 = .ok (.ifCond .eq 15, 3) := by decide +kernel
theorem dX7_sea_10 : decode cX7_sea 10 = .ok (.iload_n 2, 1) := by decide +kernel
theorem dX7_sea_11 : decode cX7_sea 11 = .ok (.i2l, 1) := by decide +kernel
theorem dX7_sea_12 : decode cX7_sea 12 = .ok (.lconst 0, 1) := by decide +kernel
theorem dX7_sea_13 : decode cX7_sea 13 = .ok (.ldc2_w 111, 3) := by decide +kernel
theorem dX7_sea_16 : decode cX7_sea 16 = .ok (.invokestatic 100, 3) := by decide +kernel
theorem dX7_sea_19 : decode cX7_sea 19 = .ok (.ifCond .ne 5, 3) := by decide +kernel
theorem dX7_sea_22 : decode cX7_sea 22 = .ok (.iconst (-1), 1) := by decide +kernel
theorem dX7_sea_23 : decode cX7_sea 23 = .ok (.ireturn, 1) := by decide +kernel
theorem dX7_sea_24 : decode cX7_sea 24 = .ok (.aload_n 0, 1) := by decide +kernel
theorem dX7_sea_25 : decode cX7_sea 25 = .ok (.iconst 0, 1) := by decide +kernel
theorem dX7_sea_26 : decode cX7_sea 26 = .ok (.putfield 142, 3) := by decide +kernel
theorem dX7_sea_29 : decode cX7_sea 29 = .ok (.aload_n 0, 1) := by decide +kernel
theorem dX7_sea_30 : decode cX7_sea 30 = .ok (.iconst 0, 1) := by decide +kernel
theorem dX7_sea_31 : decode cX7_sea 31 = .ok (.putfield 145, 3) := by decide +kernel
theorem dX7_sea_34 : decode cX7_sea 34 = .ok (.iconst 0, 1) := by decide +kernel
theorem dX7_sea_35 : decode cX7_sea 35 = .ok (.istore_n 3, 1) := by decide +kernel
theorem dX7_sea_36 : decode cX7_sea 36 = .ok (.iconst 0, 1) := by decide +kernel
theorem dX7_sea_37 : decode cX7_sea 37 = .ok (.istore 4, 2) := by decide +kernel
theorem dX7_sea_39 : decode cX7_sea 39 = .ok (.iload 4, 2) := by decide +kernel
theorem dX7_sea_41 : decode cX7_sea 41 = .ok (.bipush 10, 2) := by decide +kernel
theorem dX7_sea_43 : decode cX7_sea 43 = .ok (.if_icmp .ge 43, 3) := by decide +kernel
theorem dX7_sea_46 : decode cX7_sea 46 = .ok (.aload_n 0, 1) := by decide +kernel
theorem dX7_sea_47 : decode cX7_sea 47 = .ok (.getfield 37, 3) := by decide +kernel
theorem dX7_sea_50 : decode cX7_sea 50 = .ok (.iload 4, 2) := by decide +kernel
theorem dX7_sea_52 : decode cX7_sea 52 = .ok (.aload_n 0, 1) := by decide +kernel
theorem dX7_sea_53 : decode cX7_sea 53 = .ok (.iconst 0, 1) := by decide +kernel
theorem dX7_sea_54 : decode cX7_sea 54 = .ok (.bipush 8, 2) := by decide +kernel
theorem dX7_sea_56 : decode cX7_sea 56 = .ok (.invokevirtual 157, 3) := by decide +kernel
theorem dX7_sea_59 : decode cX7_sea 59 = .ok (.iastore, 1) := by decide +kernel
theorem dX7_sea_60 : decode cX7_sea 60 = .ok (.iload_n 3, 1) := by decide +kernel
theorem dX7_sea_61 : decode cX7_sea 61 = .ok (.aload_n 0, 1) := by decide +kernel
theorem dX7_sea_62 : decode cX7_sea 62 = .ok (.getfield 37, 3) := by decide +kernel
theorem dX7_sea_65 : decode cX7_sea 65 = .ok (.iload 4, 2) := by decide +kernel
theorem dX7_sea_67 : decode cX7_sea 67 = .ok (.iaload, 1) := by decide +kernel
theorem dX7_sea_68 : decode cX7_sea 68 = .ok (.bipush 8, 2) := by decide +kernel
theorem dX7_sea_70 : decode cX7_sea 70 = .ok (.if_icmp .ge 7, 3) := by decide +kernel
theorem dX7_sea_73 : decode cX7_sea 73 = .ok (.iconst 1, 1) := by decide +kernel
theorem dX7_sea_74 : decode cX7_sea 74 = .ok (.goto 4, 3) := by decide +kernel
theorem dX7_sea_77 : decode cX7_sea 77 = .ok (.iconst 0, 1) := by decide +kernel
theorem dX7_sea_78 : decode cX7_sea 78 = .ok (.iadd, 1) := by decide +kernel
theorem dX7_sea_79 : decode cX7_sea 79 = .ok (.istore_n 3, 1) := by decide +kernel
theorem dX7_sea_80 : decode cX7_sea 80 = .ok (.iinc 4 1, 3) := by decide +kernel
theorem dX7_sea_83 : decode cX7_sea 83 = .ok (.goto (-44), 3) := by decide +kernel
theorem dX7_sea_86 : decode cX7_sea 86 = .ok (.aload_n 0, 1) := by decide +kernel
theorem dX7_sea_87 : decode cX7_sea 87 = .ok (.aload_n 0, 1) := by decide +kernel
theorem dX7_sea_88 : decode cX7_sea 88 = .ok (.getfield 145, 3) := by decide +kernel
theorem dX7_sea_91 : decode cX7_sea 91 = .ok (.ifCond .ne 10, 3) := by decide +kernel
theorem dX7_sea_94 : decode cX7_sea 94 = .ok (.aload_n 0, 1) := by decide +kernel
theorem dX7_sea_95 : decode cX7_sea 95 = .ok (.invokevirtual 149, 3) := by decide +kernel
theorem dX7_sea_98 : decode cX7_sea 98 = .ok (.ifCond .eq 7, 3) := by decide +kernel
theorem dX7_sea_101 : decode cX7_sea 101 = .ok (.iconst 1, 1) := by decide +kernel
theorem dX7_sea_102 : decode cX7_sea 102 = .ok (.goto 4, 3) := by decide +kernel
theorem dX7_sea_105 : decode cX7_sea 105 = .ok (.iconst 0, 1) := by decide +kernel
theorem dX7_sea_106 : decode cX7_sea 106 = .ok (.putfield 145, 3) := by decide +kernel
theorem dX7_sea_109 : decode cX7_sea 109 = .ok (.aload_n 0, 1) := by decide +kernel
theorem dX7_sea_110 : decode cX7_sea 110 = .ok (.iconst 0, 1) := by decide +kernel
theorem dX7_sea_111 : decode cX7_sea 111 = .ok (.putfield 138, 3) := by decide +kernel
theorem dX7_sea_114 : decode cX7_sea 114 = .ok (.aload_n 0, 1) := by decide +kernel
theorem dX7_sea_115 : decode cX7_sea 115 = .ok (.getfield 145, 3) := by decide +kernel
theorem dX7_sea_118 : decode cX7_sea 118 = .ok (.ifCond .eq 11, 3) := by decide +kernel
theorem dX7_sea_121 : decode cX7_sea 121 = .ok (.bipush (-20), 2) := by decide +kernel
theorem dX7_sea_123 : decode cX7_sea 123 = .ok (.aload_n 0, 1) := by decide +kernel
theorem dX7_sea_124 : decode cX7_sea 124 = .ok (.getfield 142, 3) := by decide +kernel
theorem dX7_sea_127 : decode cX7_sea 127 = .ok (.isub, 1) := by decide +kernel
theorem dX7_sea_128 : decode cX7_sea 128 = .ok (.ireturn, 1) := by decide +kernel
theorem dX7_sea_129 : decode cX7_sea 129 = .ok (.iconst 0, 1) := by decide +kernel
theorem dX7_sea_130 : decode cX7_sea 130 = .ok (.istore 4, 2) := by decide +kernel
theorem dX7_sea_132 : decode cX7_sea 132 = .ok (.iload 4, 2) := by decide +kernel
theorem dX7_sea_134 : decode cX7_sea 134 = .ok (.bipush 10, 2) := by decide +kernel
theorem dX7_sea_136 : decode cX7_sea 136 = .ok (.if_icmp .ge 33, 3) := by decide +kernel
theorem dX7_sea_139 : decode cX7_sea 139 = .ok (.aload_n 0, 1) := by decide +kernel
theorem dX7_sea_140 : decode cX7_sea 140 = .ok (.getfield 19, 3) := by decide +kernel
theorem dX7_sea_143 : decode cX7_sea 143 = .ok (.bipush 100, 2) := by decide +kernel
theorem dX7_sea_145 : decode cX7_sea 145 = .ok (.iload_n 1, 1) := by decide +kernel
theorem dX7_sea_146 : decode cX7_sea 146 = .ok (.imul, 1) := by decide +kernel
theorem dX7_sea_147 : decode cX7_sea 147 = .ok (.bipush 10, 2) := by decide +kernel
theorem dX7_sea_149 : decode cX7_sea 149 = .ok (.iload_n 2, 1) := by decide +kernel
theorem dX7_sea_150 : decode cX7_sea 150 = .ok (.imul, 1) := by decide +kernel
theorem dX7_sea_151 : decode cX7_sea 151 = .ok (.iadd, 1) := by decide +kernel
theorem dX7_sea_152 : decode cX7_sea 152 = .ok (.iload 4, 2) := by decide +kernel
theorem dX7_sea_154 : decode cX7_sea 154 = .ok (.iadd, 1) := by decide +kernel
theorem dX7_sea_155 : decode cX7_sea 155 = .ok (.aload_n 0, 1) := by decide +kernel
theorem dX7_sea_156 : decode cX7_sea 156 = .ok (.getfield 37, 3) := by decide +kernel
theorem dX7_sea_159 : decode cX7_sea 159 = .ok (.iload 4, 2) := by decide +kernel
theorem dX7_sea_161 : decode cX7_sea 161 = .ok (.iaload, 1) := by decide +kernel
theorem dX7_sea_162 : decode cX7_sea 162 = .ok (.iastore, 1) := by decide +kernel
theorem dX7_sea_163 : decode cX7_sea 163 = .ok (.iinc 4 1, 3) := by decide +kernel
theorem dX7_sea_166 : decode cX7_sea 166 = .ok (.goto (-34), 3) := by decide +kernel
theorem dX7_sea_169 : decode cX7_sea 169 = .ok (.iload_n 3, 1) := by decide +kernel
theorem dX7_sea_170 : decode cX7_sea 170 = .ok (.ireturn, 1) := by decide +kernel
abbrev W_X7_sea (cyI cyJ cyO : ClassId) (h_o a_o_sets a_o_ringFar a_o_ringTone a_o_currents a_o_warmths a_o_depths a_o_tape a_o_readFar a_o_readTone a_o_readSea a_o_code a_o_cellAt a_o_courseAt a_o_paceAt a_o_turnsAt a_o_slowAt a_o_fuelAt a_o_ringAt a_o_pieceParts a_o_dragCell a_o_dragBy a_o_sums a_o_shares a_o_keptFar a_o_image a_o_lanes a_o_sizes a_o_items a_o_movedItems : Nat) (o_taped : Int32) (o_at : Int32) (o_wrong : Int32) (o_level : Int32) (o_noRings : Int32) (o_noTones : Int32) (o_noFuel : Int32) (o_pieces : Int32) (o_drags : Int32) (o_all : Int64) (o_noPieces : Int32) (o_noDrags : Int32) (o_kept : Int32) (o_currents : Nat → Int32) (o_tape : Nat → Int32) (o_readSea : Nat → Int32) : va_W := [(h_o, .inr (7, [.ref a_o_sets, .ref a_o_ringFar, .ref a_o_ringTone, .ref a_o_currents, .ref a_o_warmths, .ref a_o_depths, .ref a_o_tape, .int o_taped, .int o_at, .int o_wrong, .ref a_o_readFar, .ref a_o_readTone, .ref a_o_readSea, .ref a_o_code, .ref a_o_cellAt, .ref a_o_courseAt, .ref a_o_paceAt, .ref a_o_turnsAt, .ref a_o_slowAt, .ref a_o_fuelAt, .ref a_o_ringAt, .int o_level, .int o_noRings, .int o_noTones, .int o_noFuel, .int o_pieces, .ref a_o_pieceParts, .int o_drags, .ref a_o_dragCell, .ref a_o_dragBy, .ref a_o_sums, .long o_all, .int o_noPieces, .int o_noDrags, .ref a_o_shares, .ref a_o_keptFar, .ref a_o_image, .int o_kept, .ref a_o_lanes, .ref a_o_sizes, .ref a_o_items, .ref a_o_movedItems])), (a_o_currents, .inl (cyI, 200, .inl o_currents)), (a_o_tape, .inl (cyI, 60, .inl o_tape)), (a_o_readSea, .inl (cyI, 10, .inl o_readSea))]
def f_X7_sea_L132b (k132 : Int32 → Int32 → Int32 → Int32 → Int32 → Int32 → Int32 → (Nat → Int32) → (Nat → Int32) → (Nat → Int32) → Option (Int32 × Int32 × Int32 × Int32 × (Nat → Int32) × (Nat → Int32))) (v1 : Int32) (v2 : Int32) (v3 : Int32) (v4 : Int32) (o_taped : Int32) (o_at : Int32) (o_wrong : Int32) (o_currents : Nat → Int32) (o_tape : Nat → Int32) (o_readSea : Nat → Int32) : Option (Int32 × Int32 × Int32 × Int32 × (Nat → Int32) × (Nat → Int32)) :=
  if 10 ≤ v4 then
    some (v3, o_taped, o_at, o_wrong, o_currents, o_readSea)
  else
    chk (¬ (v4 < 0 ∨ 10 ≤ v4.toNatClampNeg)) <|
    nm (o_readSea v4.toNatClampNeg) fun x_1 =>
    chk (¬ (((100 * v1) + (10 * v2)) + v4 < 0 ∨ 200 ≤ (((100 * v1) + (10 * v2)) + v4).toNatClampNeg)) <|
    nm (v4 + 1) fun x_2 =>
    k132 v1 v2 v3 x_2 o_taped o_at o_wrong (upd o_currents (((100 * v1) + (10 * v2)) + v4).toNatClampNeg x_1) o_tape o_readSea
def f_X7_sea_L132 : Nat → Int32 → Int32 → Int32 → Int32 → Int32 → Int32 → Int32 → (Nat → Int32) → (Nat → Int32) → (Nat → Int32) → Option (Int32 × Int32 × Int32 × Int32 × (Nat → Int32) × (Nat → Int32))
  | 0 => fun _ _ _ _ _ _ _ _ _ _ => none
  | n + 1 => f_X7_sea_L132b (f_X7_sea_L132 n)
def f_X7_sea_B106 (v1 : Int32) (v2 : Int32) (v3 : Int32) (y0 : Int32) (o_taped : Int32) (o_at : Int32) (o_wrong : Int32) (o_currents : Nat → Int32) (o_tape : Nat → Int32) (o_readSea : Nat → Int32) : Option (Int32 × Int32 × Int32 × Int32 × (Nat → Int32) × (Nat → Int32)) :=
  chk (y0 = 0 ∨ y0 = 1) <|
  if y0 = 0 then
    f_X7_sea_L132 FU v1 v2 v3 0 0 o_at y0 o_currents o_tape o_readSea
  else
    some ((-20) - o_at, 0, o_at, y0, o_currents, o_readSea)
def f_X7_sea_B101 (v1 : Int32) (v2 : Int32) (v3 : Int32) (o_taped : Int32) (o_at : Int32) (o_wrong : Int32) (o_currents : Nat → Int32) (o_tape : Nat → Int32) (o_readSea : Nat → Int32) : Option (Int32 × Int32 × Int32 × Int32 × (Nat → Int32) × (Nat → Int32)) :=
  f_X7_sea_B106 v1 v2 v3 1 o_taped o_at o_wrong o_currents o_tape o_readSea
def f_X7_sea_B78 (k39 : Int32 → Int32 → Int32 → Int32 → Int32 → Int32 → Int32 → (Nat → Int32) → (Nat → Int32) → (Nat → Int32) → Option (Int32 × Int32 × Int32 × Int32 × (Nat → Int32) × (Nat → Int32))) (v1 : Int32) (v2 : Int32) (v4 : Int32) (y0 : Int32) (y1 : Int32) (o_taped : Int32) (o_at : Int32) (o_wrong : Int32) (o_currents : Nat → Int32) (o_tape : Nat → Int32) (o_readSea : Nat → Int32) : Option (Int32 × Int32 × Int32 × Int32 × (Nat → Int32) × (Nat → Int32)) :=
  nm (y1 + y0) fun x_3 =>
  nm (v4 + 1) fun x_4 =>
  k39 v1 v2 x_3 x_4 o_taped o_at o_wrong o_currents o_tape o_readSea
def f_X7_sea_L39b (k39 : Int32 → Int32 → Int32 → Int32 → Int32 → Int32 → Int32 → (Nat → Int32) → (Nat → Int32) → (Nat → Int32) → Option (Int32 × Int32 × Int32 × Int32 × (Nat → Int32) × (Nat → Int32))) (v1 : Int32) (v2 : Int32) (v3 : Int32) (v4 : Int32) (o_taped : Int32) (o_at : Int32) (o_wrong : Int32) (o_currents : Nat → Int32) (o_tape : Nat → Int32) (o_readSea : Nat → Int32) : Option (Int32 × Int32 × Int32 × Int32 × (Nat → Int32) × (Nat → Int32)) :=
  if 10 ≤ v4 then
    if o_wrong = 0 then
      bd2 (f_X7_here o_taped o_at o_tape) fun r_5 w_6 =>
      if r_5 = 0 then
        f_X7_sea_B106 v1 v2 v3 0 o_taped w_6 o_wrong o_currents o_tape o_readSea
      else
        f_X7_sea_B101 v1 v2 v3 o_taped w_6 o_wrong o_currents o_tape o_readSea
    else
      f_X7_sea_B101 v1 v2 v3 o_taped o_at o_wrong o_currents o_tape o_readSea
  else
    bd3 (f_X7_digit 0 8 o_taped o_at o_wrong o_tape) fun r_7 w_8 w_9 =>
    chk (¬ (v4 < 0 ∨ 10 ≤ v4.toNatClampNeg)) <|
    chk (¬ (v4 < 0 ∨ 10 ≤ v4.toNatClampNeg)) <|
    if 8 ≤ ((upd o_readSea v4.toNatClampNeg r_7) v4.toNatClampNeg) then
      f_X7_sea_B78 k39 v1 v2 v4 0 v3 o_taped w_8 w_9 o_currents o_tape (upd o_readSea v4.toNatClampNeg r_7)
    else
      f_X7_sea_B78 k39 v1 v2 v4 1 v3 o_taped w_8 w_9 o_currents o_tape (upd o_readSea v4.toNatClampNeg r_7)
def f_X7_sea_L39 : Nat → Int32 → Int32 → Int32 → Int32 → Int32 → Int32 → Int32 → (Nat → Int32) → (Nat → Int32) → (Nat → Int32) → Option (Int32 × Int32 × Int32 × Int32 × (Nat → Int32) × (Nat → Int32))
  | 0 => fun _ _ _ _ _ _ _ _ _ _ => none
  | n + 1 => f_X7_sea_L39b (f_X7_sea_L39 n)
def f_X7_sea (x1 : Int32) (x2 : Int32) (o_taped : Int32) (o_at : Int32) (o_wrong : Int32) (o_currents : Nat → Int32) (o_tape : Nat → Int32) (o_readSea : Nat → Int32) : Option (Int32 × Int32 × Int32 × Int32 × (Nat → Int32) × (Nat → Int32)) :=
  bd1 (f_X7_in x1.toInt64 0 1) fun r_10 =>
  if r_10 = 0 then
    some ((-1), o_taped, o_at, o_wrong, o_currents, o_readSea)
  else
    bd1 (f_X7_in x2.toInt64 0 9) fun r_11 =>
    if r_11 = 0 then
      some ((-1), o_taped, o_at, o_wrong, o_currents, o_readSea)
    else
      f_X7_sea_L39 FU x1 x2 0 0 o_taped 0 0 o_currents o_tape o_readSea
abbrev rm_X7_sea : Room := { frames := 2, cells := 0, slots := 0, locals := 48 }
set_option maxRecDepth 100000 in
set_option maxHeartbeats 4000000 in
theorem c_X7_sea (l : Launch) (dC : Nat → ClassId) (dI : Nat → Nat → Nat) (cyI cyJ cyO : ClassId) (sz : Nat) (h_o a_o_sets a_o_ringFar a_o_ringTone a_o_currents a_o_warmths a_o_depths a_o_tape a_o_readFar a_o_readTone a_o_readSea a_o_code a_o_cellAt a_o_courseAt a_o_paceAt a_o_turnsAt a_o_slowAt a_o_fuelAt a_o_ringAt a_o_pieceParts a_o_dragCell a_o_dragBy a_o_sums a_o_shares a_o_keptFar a_o_image a_o_lanes a_o_sizes a_o_items a_o_movedItems : Nat) (o_taped : Int32) (o_at : Int32) (o_wrong : Int32) (o_level : Int32) (o_noRings : Int32) (o_noTones : Int32) (o_noFuel : Int32) (o_pieces : Int32) (o_drags : Int32) (o_all : Int64) (o_noPieces : Int32) (o_noDrags : Int32) (o_kept : Int32) (o_currents : Nat → Int32) (o_tape : Nat → Int32) (o_readSea : Nat → Int32) (x1 : Int32) (x2 : Int32) (post : (Int32 × Int32 × Int32 × Int32 × (Nat → Int32) × (Nat → Int32)) → Prop) (hf : okP (f_X7_sea x1 x2 o_taped o_at o_wrong o_currents o_tape o_readSea) post) : Ci l (dC, dI) (tyL cyI cyJ cyO) yX7_sea wsX7_sea rm_X7_sea [.ref h_o, .int x1, .int x2] sz (W_X7_sea cyI cyJ cyO h_o a_o_sets a_o_ringFar a_o_ringTone a_o_currents a_o_warmths a_o_depths a_o_tape a_o_readFar a_o_readTone a_o_readSea a_o_code a_o_cellAt a_o_courseAt a_o_paceAt a_o_turnsAt a_o_slowAt a_o_fuelAt a_o_ringAt a_o_pieceParts a_o_dragCell a_o_dragBy a_o_sums a_o_shares a_o_keptFar a_o_image a_o_lanes a_o_sizes a_o_items a_o_movedItems o_taped o_at o_wrong o_level o_noRings o_noTones o_noFuel o_pieces o_drags o_all o_noPieces o_noDrags o_kept o_currents o_tape o_readSea) zN (fun r u => post (r, u)) (fun u => (W_X7_sea cyI cyJ cyO h_o a_o_sets a_o_ringFar a_o_ringTone a_o_currents a_o_warmths a_o_depths a_o_tape a_o_readFar a_o_readTone a_o_readSea a_o_code a_o_cellAt a_o_courseAt a_o_paceAt a_o_turnsAt a_o_slowAt a_o_fuelAt a_o_ringAt a_o_pieceParts a_o_dragCell a_o_dragBy a_o_sums a_o_shares a_o_keptFar a_o_image a_o_lanes a_o_sizes a_o_items a_o_movedItems u.1 u.2.1 u.2.2.1 o_level o_noRings o_noTones o_noFuel o_pieces o_drags o_all o_noPieces o_noDrags o_kept u.2.2.2.1 o_tape u.2.2.2.2)) := by
  refine Met.ofW (cc := cX7_sea) (maxL := 5) (ret := (some .int)) (by decide) rfl ?_
  intro p e s m args below meth c s₁ B hml hv
  obtain ⟨rfl, hsz, hP, hK, hD0, hZ⟩ := hv
  have hx := B.exec
  have hb := B.bytes
  have hr := B.returns
  have hts := atoms_spec (ws := wsX7_sea) B.pre
  have hown : s.vm.findClass RX7 = some m.cls := findClass_of_methodNamed B.named
  have hlocks := B.notSynchronized
  subst hsz
  have hD := hD0.self (sz := s.heap.size)
  generalize hAe : va_A (W_X7_sea cyI cyJ cyO h_o a_o_sets a_o_ringFar a_o_ringTone a_o_currents a_o_warmths a_o_depths a_o_tape a_o_readFar a_o_readTone a_o_readSea a_o_code a_o_cellAt a_o_courseAt a_o_paceAt a_o_turnsAt a_o_slowAt a_o_fuelAt a_o_ringAt a_o_pieceParts a_o_dragCell a_o_dragBy a_o_sums a_o_shares a_o_keptFar a_o_image a_o_lanes a_o_sizes a_o_items a_o_movedItems o_taped o_at o_wrong o_level o_noRings o_noTones o_noFuel o_pieces o_drags o_all o_noPieces o_noDrags o_kept o_currents o_tape o_readSea) s.heap.size = A at hD hZ ⊢
  have hA : ∀ q : Nat, s.heap.size ≤ q → A q := fun q h => by rw [← hAe]; exact Or.inr h
  clear hAe hD0
  have hS : va_S A s.heap s.heap [] := va_S.rf
  have hl := lv_entry ([.ref h_o, .int x1, .int x2]) (n := 5) (Nat.le_of_ble_eq_true rfl)
  rw [lg_entry_eq]
  generalize (lg_sl ([.ref h_o, .int x1, .int x2]) ++ List.replicate (5 - (lg_sl ([.ref h_o, .int x1, .int x2])).length) Slot.unset).toArray = ls at hl ⊢
  have hl : lv_has ls 5 [(0, .ref h_o), (1, .int x1), (2, .int x2)] := hl
  refine kW (fun Q hQ => ?_)
  have hq0 := hts _ (List.mem_cons_of_mem _ q_709)
  have hi7 : ∀ w ∈ u_ws RX7 TX7 42, w ∈ wsX7_sea := fun w h => List.mem_cons_of_mem _ (inX7 w h)
  have hq2 := hts _ (List.mem_cons_of_mem _ q_718)
  have hq3 := hts _ (List.mem_cons_of_mem _ q_715)
  have hq4 := hts _ (List.mem_cons_of_mem _ q_713)
  have hq5 := hts _ (List.mem_cons_of_mem _ q_714)
  have hq6 := hts _ (List.mem_cons_of_mem _ q_891)
  have hw := hf
  have w132 : ∀ (n : Nat), ∀ (v1 : Int32) (v2 : Int32) (v3 : Int32) (v4 : Int32) (o_taped : Int32) (o_at : Int32) (o_wrong : Int32) (o_currents : Nat → Int32) (o_readSea : Nat → Int32) (H : Heap) (locs : List Loc), va_P (dC, dI) vwCl (W_X7_sea cyI cyJ cyO h_o a_o_sets a_o_ringFar a_o_ringTone a_o_currents a_o_warmths a_o_depths a_o_tape a_o_readFar a_o_readTone a_o_readSea a_o_code a_o_cellAt a_o_courseAt a_o_paceAt a_o_turnsAt a_o_slowAt a_o_fuelAt a_o_ringAt a_o_pieceParts a_o_dragCell a_o_dragBy a_o_sums a_o_shares a_o_keptFar a_o_image a_o_lanes a_o_sizes a_o_items a_o_movedItems o_taped o_at o_wrong o_level o_noRings o_noTones o_noFuel o_pieces o_drags o_all o_noPieces o_noDrags o_kept o_currents o_tape o_readSea) H → va_D A (W_X7_sea cyI cyJ cyO h_o a_o_sets a_o_ringFar a_o_ringTone a_o_currents a_o_warmths a_o_depths a_o_tape a_o_readFar a_o_readTone a_o_readSea a_o_code a_o_cellAt a_o_courseAt a_o_paceAt a_o_turnsAt a_o_slowAt a_o_fuelAt a_o_ringAt a_o_pieceParts a_o_dragCell a_o_dragBy a_o_sums a_o_shares a_o_keptFar a_o_image a_o_lanes a_o_sizes a_o_items a_o_movedItems o_taped o_at o_wrong o_level o_noRings o_noTones o_noFuel o_pieces o_drags o_all o_noPieces o_noDrags o_kept o_currents o_tape o_readSea) → va_S A s.heap H locs → ∀ (ls : Array Slot), lv_has ls 5 [(0, .ref h_o), (1, .int v1), (2, .int v2), (3, .int v3), (4, .int v4)] → okP (f_X7_sea_L132 n v1 v2 v3 v4 o_taped o_at o_wrong o_currents o_tape o_readSea) post → W p l e (headSpec wsX7_sea rm_X7_sea).room s m ([.ref h_o, .int x1, .int x2] : List Value).toArray below meth c H locs 0 0 Q (F0 m 132 ls []) := by
    intro n
    induction n with
    | zero =>
      intro v1 v2 v3 v4 o_taped o_at o_wrong o_currents o_readSea H locs hP hD hS ls hl hw
      exact (ok0 hw).elim
    | succ n132 ih132 =>
      intro v1 v2 v3 v4 o_taped o_at o_wrong o_currents o_readSea H locs hP hD hS ls hl hw
      replace hw : okP (f_X7_sea_L132b (f_X7_sea_L132 n132) v1 v2 v3 v4 o_taped o_at o_wrong o_currents o_tape o_readSea) post := hw
      unfold f_X7_sea_L132b at hw
      refine lv_iload hx hb dX7_sea_132 (lv_at hl 4 rfl) ?_
      refine lv_bipush (v := 10) hx hb dX7_sea_134 (by decide) ?_
      refine lv_icmp_ge (tgt := 169) hx hb dX7_sea_136 (by decide) (fun c_1 => ?_) (fun c_1 => ?_)
      · replace hw := okT hw c_1
        clear c_1
        refine lv_iload_n hx hb dX7_sea_169 rfl (lv_at hl 3 rfl) ?_
        rw [hQ]
        exact W.iret (v := v3) hx hb hr (fun t ht hW => ⟨⟨v3, (o_taped, o_at, o_wrong, o_currents, o_readSea), rfl, okS hw, by rw [ht]; exact hP, va_K.moved hW.alike hK, hD⟩, hS.F ht⟩) hS.2.2 dX7_sea_170
      · replace hw := okF hw c_1
        clear c_1
        refine lv_aload_n hx hb dX7_sea_139 rfl (lv_at hl 0 rfl) ?_
        refine va_get (D := (dC, dI)) (ci := 7) (v := .ref a_o_currents) (C := RX7) (T := TX7) (N := 42) hx hb hts hi7 hown hK hP 0 rfl rfl 3 (by decide) hq0 (fun _ h9 => h9) rfl dX7_sea_140 ?_
        refine lv_bipush (v := 100) hx hb dX7_sea_143 (by decide) ?_
        refine lv_iload_n hx hb dX7_sea_145 rfl (lv_at hl 1 rfl) ?_
        refine lv_imul hx hb dX7_sea_146 ?_
        refine lv_bipush (v := 10) hx hb dX7_sea_147 (by decide) ?_
        refine lv_iload_n hx hb dX7_sea_149 rfl (lv_at hl 2 rfl) ?_
        refine lv_imul hx hb dX7_sea_150 ?_
        refine lv_iadd hx hb dX7_sea_151 ?_
        refine lv_iload hx hb dX7_sea_152 (lv_at hl 4 rfl) ?_
        refine lv_iadd hx hb dX7_sea_154 ?_
        refine lv_aload_n hx hb dX7_sea_155 rfl (lv_at hl 0 rfl) ?_
        refine va_get (D := (dC, dI)) (ci := 7) (v := .ref a_o_readSea) (C := RX7) (T := TX7) (N := 42) hx hb hts hi7 hown hK hP 0 rfl rfl 12 (by decide) hq2 (fun _ h9 => h9) rfl dX7_sea_156 ?_
        refine lv_iload hx hb dX7_sea_159 (lv_at hl 4 rfl) ?_
        obtain ⟨h_2, hw⟩ := okC hw
        refine va_iald (i := v4) hx hb hK hP 3 0 rfl rfl h_2 dX7_sea_161 ?_
        refine lv_topi (fun x_3 ex_3 => ?_)
        replace hw := okN ex_3 hw
        clear ex_3
        obtain ⟨h_4, hw⟩ := okC hw
        refine va_iast (i := ((100 * v1) + (10 * v2)) + v4) (x := x_3) hx hb hK hP hD hS 1 0 rfl rfl h_4 dX7_sea_162 (fun H locs hP hD hS => ?_)
        have hP : va_P (dC, dI) vwCl (W_X7_sea cyI cyJ cyO h_o a_o_sets a_o_ringFar a_o_ringTone a_o_currents a_o_warmths a_o_depths a_o_tape a_o_readFar a_o_readTone a_o_readSea a_o_code a_o_cellAt a_o_courseAt a_o_paceAt a_o_turnsAt a_o_slowAt a_o_fuelAt a_o_ringAt a_o_pieceParts a_o_dragCell a_o_dragBy a_o_sums a_o_shares a_o_keptFar a_o_image a_o_lanes a_o_sizes a_o_items a_o_movedItems o_taped o_at o_wrong o_level o_noRings o_noTones o_noFuel o_pieces o_drags o_all o_noPieces o_noDrags o_kept (upd o_currents (((100 * v1) + (10 * v2)) + v4).toNatClampNeg x_3) o_tape o_readSea) H := hP
        have hD : va_D A (W_X7_sea cyI cyJ cyO h_o a_o_sets a_o_ringFar a_o_ringTone a_o_currents a_o_warmths a_o_depths a_o_tape a_o_readFar a_o_readTone a_o_readSea a_o_code a_o_cellAt a_o_courseAt a_o_paceAt a_o_turnsAt a_o_slowAt a_o_fuelAt a_o_ringAt a_o_pieceParts a_o_dragCell a_o_dragBy a_o_sums a_o_shares a_o_keptFar a_o_image a_o_lanes a_o_sizes a_o_items a_o_movedItems o_taped o_at o_wrong o_level o_noRings o_noTones o_noFuel o_pieces o_drags o_all o_noPieces o_noDrags o_kept (upd o_currents (((100 * v1) + (10 * v2)) + v4).toNatClampNeg x_3) o_tape o_readSea) := hD
        obtain ⟨x_5, ex_5⟩ : ∃ y : Int32, y = v4 + 1 := ⟨_, rfl⟩
        replace hw := okN ex_5 hw
        refine lv_iinc (v := x_5) (lv' := [(4, .int x_5), (0, .ref h_o), (1, .int v1), (2, .int v2), (3, .int v3)]) hx hb dX7_sea_163 hl (k := 4) rfl (by rw [ex_5]; rfl) (by decide) rfl (fun ls hl => ?_)
        clear ex_5
        refine lv_goto (tgt := 132) hx hb dX7_sea_166 (by decide) ?_
        exact ih132 v1 v2 v3 x_5 o_taped o_at o_wrong (upd o_currents (((100 * v1) + (10 * v2)) + v4).toNatClampNeg x_3) o_readSea _ _ hP hD hS _ (lv_sub hl [1, 2, 3, 4, 0] rfl) hw
  have w106 : ∀ (v1 : Int32) (v2 : Int32) (v3 : Int32) (y0 : Int32) (o_taped : Int32) (o_at : Int32) (o_wrong : Int32) (o_currents : Nat → Int32) (o_readSea : Nat → Int32) (H : Heap) (locs : List Loc), va_P (dC, dI) vwCl (W_X7_sea cyI cyJ cyO h_o a_o_sets a_o_ringFar a_o_ringTone a_o_currents a_o_warmths a_o_depths a_o_tape a_o_readFar a_o_readTone a_o_readSea a_o_code a_o_cellAt a_o_courseAt a_o_paceAt a_o_turnsAt a_o_slowAt a_o_fuelAt a_o_ringAt a_o_pieceParts a_o_dragCell a_o_dragBy a_o_sums a_o_shares a_o_keptFar a_o_image a_o_lanes a_o_sizes a_o_items a_o_movedItems o_taped o_at o_wrong o_level o_noRings o_noTones o_noFuel o_pieces o_drags o_all o_noPieces o_noDrags o_kept o_currents o_tape o_readSea) H → va_D A (W_X7_sea cyI cyJ cyO h_o a_o_sets a_o_ringFar a_o_ringTone a_o_currents a_o_warmths a_o_depths a_o_tape a_o_readFar a_o_readTone a_o_readSea a_o_code a_o_cellAt a_o_courseAt a_o_paceAt a_o_turnsAt a_o_slowAt a_o_fuelAt a_o_ringAt a_o_pieceParts a_o_dragCell a_o_dragBy a_o_sums a_o_shares a_o_keptFar a_o_image a_o_lanes a_o_sizes a_o_items a_o_movedItems o_taped o_at o_wrong o_level o_noRings o_noTones o_noFuel o_pieces o_drags o_all o_noPieces o_noDrags o_kept o_currents o_tape o_readSea) → va_S A s.heap H locs → ∀ (ls : Array Slot), lv_has ls 5 [(0, .ref h_o), (1, .int v1), (2, .int v2), (3, .int v3)] → okP (f_X7_sea_B106 v1 v2 v3 y0 o_taped o_at o_wrong o_currents o_tape o_readSea) post → W p l e (headSpec wsX7_sea rm_X7_sea).room s m ([.ref h_o, .int x1, .int x2] : List Value).toArray below meth c H locs 0 0 Q (F0 m 106 ls [.int y0, .ref h_o]) := by
    intro v1 v2 v3 y0 o_taped o_at o_wrong o_currents o_readSea H locs hP hD hS ls hl hw
    unfold f_X7_sea_B106 at hw
    obtain ⟨h_6, hw⟩ := okC hw
    refine va_put (D := (dC, dI)) (ci := 7) (v := .int y0) (ty := .boolean) (C := RX7) (T := TX7) (N := 42) hx hb hts hi7 tyX7 tyX7_ok nmX7 hown hK hP hD hS 0 rfl rfl 9 (by decide) hq3 (fun _ h9 => h9) rfl (by decide +kernel) (nbZ h_6) (ftZ h_6) (Nat.le_of_ble_eq_true rfl) dX7_sea_106 (fun H locs hP hD hS => ?_)
    have hP : va_P (dC, dI) vwCl (W_X7_sea cyI cyJ cyO h_o a_o_sets a_o_ringFar a_o_ringTone a_o_currents a_o_warmths a_o_depths a_o_tape a_o_readFar a_o_readTone a_o_readSea a_o_code a_o_cellAt a_o_courseAt a_o_paceAt a_o_turnsAt a_o_slowAt a_o_fuelAt a_o_ringAt a_o_pieceParts a_o_dragCell a_o_dragBy a_o_sums a_o_shares a_o_keptFar a_o_image a_o_lanes a_o_sizes a_o_items a_o_movedItems o_taped o_at y0 o_level o_noRings o_noTones o_noFuel o_pieces o_drags o_all o_noPieces o_noDrags o_kept o_currents o_tape o_readSea) H := hP
    have hD : va_D A (W_X7_sea cyI cyJ cyO h_o a_o_sets a_o_ringFar a_o_ringTone a_o_currents a_o_warmths a_o_depths a_o_tape a_o_readFar a_o_readTone a_o_readSea a_o_code a_o_cellAt a_o_courseAt a_o_paceAt a_o_turnsAt a_o_slowAt a_o_fuelAt a_o_ringAt a_o_pieceParts a_o_dragCell a_o_dragBy a_o_sums a_o_shares a_o_keptFar a_o_image a_o_lanes a_o_sizes a_o_items a_o_movedItems o_taped o_at y0 o_level o_noRings o_noTones o_noFuel o_pieces o_drags o_all o_noPieces o_noDrags o_kept o_currents o_tape o_readSea) := hD
    refine lv_aload_n hx hb dX7_sea_109 rfl (lv_at hl 0 rfl) ?_
    refine lv_iconst (v := 0) hx hb dX7_sea_110 (by decide) ?_
    refine va_put (D := (dC, dI)) (ci := 7) (v := .int 0) (ty := .int) (C := RX7) (T := TX7) (N := 42) hx hb hts hi7 tyX7 tyX7_ok nmX7 hown hK hP hD hS 0 rfl rfl 7 (by decide) hq4 (fun _ h9 => h9) rfl (by decide +kernel) rfl rfl (Nat.le_of_ble_eq_true rfl) dX7_sea_111 (fun H locs hP hD hS => ?_)
    have hP : va_P (dC, dI) vwCl (W_X7_sea cyI cyJ cyO h_o a_o_sets a_o_ringFar a_o_ringTone a_o_currents a_o_warmths a_o_depths a_o_tape a_o_readFar a_o_readTone a_o_readSea a_o_code a_o_cellAt a_o_courseAt a_o_paceAt a_o_turnsAt a_o_slowAt a_o_fuelAt a_o_ringAt a_o_pieceParts a_o_dragCell a_o_dragBy a_o_sums a_o_shares a_o_keptFar a_o_image a_o_lanes a_o_sizes a_o_items a_o_movedItems 0 o_at y0 o_level o_noRings o_noTones o_noFuel o_pieces o_drags o_all o_noPieces o_noDrags o_kept o_currents o_tape o_readSea) H := hP
    have hD : va_D A (W_X7_sea cyI cyJ cyO h_o a_o_sets a_o_ringFar a_o_ringTone a_o_currents a_o_warmths a_o_depths a_o_tape a_o_readFar a_o_readTone a_o_readSea a_o_code a_o_cellAt a_o_courseAt a_o_paceAt a_o_turnsAt a_o_slowAt a_o_fuelAt a_o_ringAt a_o_pieceParts a_o_dragCell a_o_dragBy a_o_sums a_o_shares a_o_keptFar a_o_image a_o_lanes a_o_sizes a_o_items a_o_movedItems 0 o_at y0 o_level o_noRings o_noTones o_noFuel o_pieces o_drags o_all o_noPieces o_noDrags o_kept o_currents o_tape o_readSea) := hD
    refine lv_aload_n hx hb dX7_sea_114 rfl (lv_at hl 0 rfl) ?_
    refine va_get (D := (dC, dI)) (ci := 7) (v := .int y0) (C := RX7) (T := TX7) (N := 42) hx hb hts hi7 hown hK hP 0 rfl rfl 9 (by decide) hq3 (fun _ h9 => h9) rfl dX7_sea_115 ?_
    refine lv_if_eq (tgt := 129) hx hb dX7_sea_118 (by decide) (fun c_7 => ?_) (fun c_7 => ?_)
    · replace hw := okT hw c_7
      clear c_7
      refine lv_iconst (v := 0) hx hb dX7_sea_129 (by decide) ?_
      refine lv_istore (lv' := [(4, .int 0), (0, .ref h_o), (1, .int v1), (2, .int v2), (3, .int v3)]) hx hb dX7_sea_130 hl (by decide) rfl (fun ls hl => ?_)
      exact w132 FU v1 v2 v3 0 0 o_at y0 o_currents o_readSea _ _ hP hD hS _ (lv_sub hl [1, 2, 3, 4, 0] rfl) hw
    · replace hw := okF hw c_7
      clear c_7
      refine lv_bipush (v := (-20)) hx hb dX7_sea_121 (by decide) ?_
      refine lv_aload_n hx hb dX7_sea_123 rfl (lv_at hl 0 rfl) ?_
      refine va_get (D := (dC, dI)) (ci := 7) (v := .int o_at) (C := RX7) (T := TX7) (N := 42) hx hb hts hi7 hown hK hP 0 rfl rfl 8 (by decide) hq5 (fun _ h9 => h9) rfl dX7_sea_124 ?_
      refine lv_isub hx hb dX7_sea_127 ?_
      rw [hQ]
      exact W.iret (v := (-20) - o_at) hx hb hr (fun t ht hW => ⟨⟨(-20) - o_at, (0, o_at, y0, o_currents, o_readSea), rfl, okS hw, by rw [ht]; exact hP, va_K.moved hW.alike hK, hD⟩, hS.F ht⟩) hS.2.2 dX7_sea_128
  have w101 : ∀ (v1 : Int32) (v2 : Int32) (v3 : Int32) (o_taped : Int32) (o_at : Int32) (o_wrong : Int32) (o_currents : Nat → Int32) (o_readSea : Nat → Int32) (H : Heap) (locs : List Loc), va_P (dC, dI) vwCl (W_X7_sea cyI cyJ cyO h_o a_o_sets a_o_ringFar a_o_ringTone a_o_currents a_o_warmths a_o_depths a_o_tape a_o_readFar a_o_readTone a_o_readSea a_o_code a_o_cellAt a_o_courseAt a_o_paceAt a_o_turnsAt a_o_slowAt a_o_fuelAt a_o_ringAt a_o_pieceParts a_o_dragCell a_o_dragBy a_o_sums a_o_shares a_o_keptFar a_o_image a_o_lanes a_o_sizes a_o_items a_o_movedItems o_taped o_at o_wrong o_level o_noRings o_noTones o_noFuel o_pieces o_drags o_all o_noPieces o_noDrags o_kept o_currents o_tape o_readSea) H → va_D A (W_X7_sea cyI cyJ cyO h_o a_o_sets a_o_ringFar a_o_ringTone a_o_currents a_o_warmths a_o_depths a_o_tape a_o_readFar a_o_readTone a_o_readSea a_o_code a_o_cellAt a_o_courseAt a_o_paceAt a_o_turnsAt a_o_slowAt a_o_fuelAt a_o_ringAt a_o_pieceParts a_o_dragCell a_o_dragBy a_o_sums a_o_shares a_o_keptFar a_o_image a_o_lanes a_o_sizes a_o_items a_o_movedItems o_taped o_at o_wrong o_level o_noRings o_noTones o_noFuel o_pieces o_drags o_all o_noPieces o_noDrags o_kept o_currents o_tape o_readSea) → va_S A s.heap H locs → ∀ (ls : Array Slot), lv_has ls 5 [(0, .ref h_o), (1, .int v1), (2, .int v2), (3, .int v3)] → okP (f_X7_sea_B101 v1 v2 v3 o_taped o_at o_wrong o_currents o_tape o_readSea) post → W p l e (headSpec wsX7_sea rm_X7_sea).room s m ([.ref h_o, .int x1, .int x2] : List Value).toArray below meth c H locs 0 0 Q (F0 m 101 ls [.ref h_o]) := by
    intro v1 v2 v3 o_taped o_at o_wrong o_currents o_readSea H locs hP hD hS ls hl hw
    unfold f_X7_sea_B101 at hw
    refine lv_iconst (v := 1) hx hb dX7_sea_101 (by decide) ?_
    refine lv_goto (tgt := 106) hx hb dX7_sea_102 (by decide) ?_
    exact w106 v1 v2 v3 1 o_taped o_at o_wrong o_currents o_readSea _ _ hP hD hS _ (lv_sub hl [0, 1, 2, 3] rfl) hw
  have w39 : ∀ (n : Nat), ∀ (v1 : Int32) (v2 : Int32) (v3 : Int32) (v4 : Int32) (o_taped : Int32) (o_at : Int32) (o_wrong : Int32) (o_currents : Nat → Int32) (o_readSea : Nat → Int32) (H : Heap) (locs : List Loc), va_P (dC, dI) vwCl (W_X7_sea cyI cyJ cyO h_o a_o_sets a_o_ringFar a_o_ringTone a_o_currents a_o_warmths a_o_depths a_o_tape a_o_readFar a_o_readTone a_o_readSea a_o_code a_o_cellAt a_o_courseAt a_o_paceAt a_o_turnsAt a_o_slowAt a_o_fuelAt a_o_ringAt a_o_pieceParts a_o_dragCell a_o_dragBy a_o_sums a_o_shares a_o_keptFar a_o_image a_o_lanes a_o_sizes a_o_items a_o_movedItems o_taped o_at o_wrong o_level o_noRings o_noTones o_noFuel o_pieces o_drags o_all o_noPieces o_noDrags o_kept o_currents o_tape o_readSea) H → va_D A (W_X7_sea cyI cyJ cyO h_o a_o_sets a_o_ringFar a_o_ringTone a_o_currents a_o_warmths a_o_depths a_o_tape a_o_readFar a_o_readTone a_o_readSea a_o_code a_o_cellAt a_o_courseAt a_o_paceAt a_o_turnsAt a_o_slowAt a_o_fuelAt a_o_ringAt a_o_pieceParts a_o_dragCell a_o_dragBy a_o_sums a_o_shares a_o_keptFar a_o_image a_o_lanes a_o_sizes a_o_items a_o_movedItems o_taped o_at o_wrong o_level o_noRings o_noTones o_noFuel o_pieces o_drags o_all o_noPieces o_noDrags o_kept o_currents o_tape o_readSea) → va_S A s.heap H locs → ∀ (ls : Array Slot), lv_has ls 5 [(0, .ref h_o), (1, .int v1), (2, .int v2), (3, .int v3), (4, .int v4)] → okP (f_X7_sea_L39 n v1 v2 v3 v4 o_taped o_at o_wrong o_currents o_tape o_readSea) post → W p l e (headSpec wsX7_sea rm_X7_sea).room s m ([.ref h_o, .int x1, .int x2] : List Value).toArray below meth c H locs 0 0 Q (F0 m 39 ls []) := by
    intro n
    induction n with
    | zero =>
      intro v1 v2 v3 v4 o_taped o_at o_wrong o_currents o_readSea H locs hP hD hS ls hl hw
      exact (ok0 hw).elim
    | succ n39 ih39 =>
      have w78 : ∀ (v1 : Int32) (v2 : Int32) (v4 : Int32) (y0 : Int32) (y1 : Int32) (o_taped : Int32) (o_at : Int32) (o_wrong : Int32) (o_currents : Nat → Int32) (o_readSea : Nat → Int32) (H : Heap) (locs : List Loc), va_P (dC, dI) vwCl (W_X7_sea cyI cyJ cyO h_o a_o_sets a_o_ringFar a_o_ringTone a_o_currents a_o_warmths a_o_depths a_o_tape a_o_readFar a_o_readTone a_o_readSea a_o_code a_o_cellAt a_o_courseAt a_o_paceAt a_o_turnsAt a_o_slowAt a_o_fuelAt a_o_ringAt a_o_pieceParts a_o_dragCell a_o_dragBy a_o_sums a_o_shares a_o_keptFar a_o_image a_o_lanes a_o_sizes a_o_items a_o_movedItems o_taped o_at o_wrong o_level o_noRings o_noTones o_noFuel o_pieces o_drags o_all o_noPieces o_noDrags o_kept o_currents o_tape o_readSea) H → va_D A (W_X7_sea cyI cyJ cyO h_o a_o_sets a_o_ringFar a_o_ringTone a_o_currents a_o_warmths a_o_depths a_o_tape a_o_readFar a_o_readTone a_o_readSea a_o_code a_o_cellAt a_o_courseAt a_o_paceAt a_o_turnsAt a_o_slowAt a_o_fuelAt a_o_ringAt a_o_pieceParts a_o_dragCell a_o_dragBy a_o_sums a_o_shares a_o_keptFar a_o_image a_o_lanes a_o_sizes a_o_items a_o_movedItems o_taped o_at o_wrong o_level o_noRings o_noTones o_noFuel o_pieces o_drags o_all o_noPieces o_noDrags o_kept o_currents o_tape o_readSea) → va_S A s.heap H locs → ∀ (ls : Array Slot), lv_has ls 5 [(0, .ref h_o), (1, .int v1), (2, .int v2), (4, .int v4)] → okP (f_X7_sea_B78 (f_X7_sea_L39 n39) v1 v2 v4 y0 y1 o_taped o_at o_wrong o_currents o_tape o_readSea) post → W p l e (headSpec wsX7_sea rm_X7_sea).room s m ([.ref h_o, .int x1, .int x2] : List Value).toArray below meth c H locs 0 0 Q (F0 m 78 ls [.int y0, .int y1]) := by
        intro v1 v2 v4 y0 y1 o_taped o_at o_wrong o_currents o_readSea H locs hP hD hS ls hl hw
        unfold f_X7_sea_B78 at hw
        refine lv_iadd hx hb dX7_sea_78 ?_
        refine lv_topi (fun x_8 ex_8 => ?_)
        replace hw := okN ex_8 hw
        clear ex_8
        refine lv_istore_n (lv' := [(3, .int x_8), (0, .ref h_o), (1, .int v1), (2, .int v2), (4, .int v4)]) hx hb dX7_sea_79 rfl hl (by decide) rfl (fun ls hl => ?_)
        obtain ⟨x_9, ex_9⟩ : ∃ y : Int32, y = v4 + 1 := ⟨_, rfl⟩
        replace hw := okN ex_9 hw
        refine lv_iinc (v := x_9) (lv' := [(4, .int x_9), (3, .int x_8), (0, .ref h_o), (1, .int v1), (2, .int v2)]) hx hb dX7_sea_80 hl (k := 4) rfl (by rw [ex_9]; rfl) (by decide) rfl (fun ls hl => ?_)
        clear ex_9
        refine lv_goto (tgt := 39) hx hb dX7_sea_83 (by decide) ?_
        exact ih39 v1 v2 x_8 x_9 o_taped o_at o_wrong o_currents o_readSea _ _ hP hD hS _ (lv_sub hl [2, 3, 4, 1, 0] rfl) hw
      intro v1 v2 v3 v4 o_taped o_at o_wrong o_currents o_readSea H locs hP hD hS ls hl hw
      replace hw : okP (f_X7_sea_L39b (f_X7_sea_L39 n39) v1 v2 v3 v4 o_taped o_at o_wrong o_currents o_tape o_readSea) post := hw
      unfold f_X7_sea_L39b at hw
      refine lv_iload hx hb dX7_sea_39 (lv_at hl 4 rfl) ?_
      refine lv_bipush (v := 10) hx hb dX7_sea_41 (by decide) ?_
      refine lv_icmp_ge (tgt := 86) hx hb dX7_sea_43 (by decide) (fun c_10 => ?_) (fun c_10 => ?_)
      · replace hw := okT hw c_10
        clear c_10
        refine lv_aload_n hx hb dX7_sea_86 rfl (lv_at hl 0 rfl) ?_
        refine lv_aload_n hx hb dX7_sea_87 rfl (lv_at hl 0 rfl) ?_
        refine va_get (D := (dC, dI)) (ci := 7) (v := .int o_wrong) (C := RX7) (T := TX7) (N := 42) hx hb hts hi7 hown hK hP 0 rfl rfl 9 (by decide) hq3 (fun _ h9 => h9) rfl dX7_sea_88 ?_
        refine lv_if_ne (tgt := 101) hx hb dX7_sea_91 (by decide) (fun c_11 => ?_) (fun c_11 => ?_)
        · replace hw := okF hw c_11
          clear c_11
          exact w101 v1 v2 v3 o_taped o_at o_wrong o_currents o_readSea _ _ hP hD hS _ (lv_sub hl [0, 1, 2, 3] rfl) hw
        · replace hw := okT hw c_11
          clear c_11
          refine lv_aload_n hx hb dX7_sea_94 rfl (lv_at hl 0 rfl) ?_
          have hPc := hP.sub (ws' := (W_X7_here cyI cyJ cyO h_o a_o_sets a_o_ringFar a_o_ringTone a_o_currents a_o_warmths a_o_depths a_o_tape a_o_readFar a_o_readTone a_o_readSea a_o_code a_o_cellAt a_o_courseAt a_o_paceAt a_o_turnsAt a_o_slowAt a_o_fuelAt a_o_ringAt a_o_pieceParts a_o_dragCell a_o_dragBy a_o_sums a_o_shares a_o_keptFar a_o_image a_o_lanes a_o_sizes a_o_items a_o_movedItems o_taped o_at o_wrong o_level o_noRings o_noTones o_noFuel o_pieces o_drags o_all o_noPieces o_noDrags o_kept o_tape)) [0, 2] rfl
          have hDc := hD.sub (ws' := (W_X7_here cyI cyJ cyO h_o a_o_sets a_o_ringFar a_o_ringTone a_o_currents a_o_warmths a_o_depths a_o_tape a_o_readFar a_o_readTone a_o_readSea a_o_code a_o_cellAt a_o_courseAt a_o_paceAt a_o_turnsAt a_o_slowAt a_o_fuelAt a_o_ringAt a_o_pieceParts a_o_dragCell a_o_dragBy a_o_sums a_o_shares a_o_keptFar a_o_image a_o_lanes a_o_sizes a_o_items a_o_movedItems o_taped o_at o_wrong o_level o_noRings o_noTones o_noFuel o_pieces o_drags o_all o_noPieces o_noDrags o_kept o_tape)) [0, 2] (by decide +kernel) rfl
          have hFc := va_free (wc := (W_X7_here cyI cyJ cyO h_o a_o_sets a_o_ringFar a_o_ringTone a_o_currents a_o_warmths a_o_depths a_o_tape a_o_readFar a_o_readTone a_o_readSea a_o_code a_o_cellAt a_o_courseAt a_o_paceAt a_o_turnsAt a_o_slowAt a_o_fuelAt a_o_ringAt a_o_pieceParts a_o_dragCell a_o_dragBy a_o_sums a_o_shares a_o_keptFar a_o_image a_o_lanes a_o_sizes a_o_items a_o_movedItems o_taped o_at o_wrong o_level o_noRings o_noTones o_noFuel o_pieces o_drags o_all o_noPieces o_noDrags o_kept o_tape)) hD hS hA [0, 2] rfl
          refine kc_i (wr := [(a_o_currents, .inl (cyI, 200, .inl o_currents)), (a_o_readSea, .inl (cyI, 10, .inl o_readSea))]) (va_runV (As := []) (rest := [.ref h_o]) ⟨hx, hb, hml, hown, hts⟩ (c_X7_here l dC dI cyI cyJ cyO H.size h_o a_o_sets a_o_ringFar a_o_ringTone a_o_currents a_o_warmths a_o_depths a_o_tape a_o_readFar a_o_readTone a_o_readSea a_o_code a_o_cellAt a_o_courseAt a_o_paceAt a_o_turnsAt a_o_slowAt a_o_fuelAt a_o_ringAt a_o_pieceParts a_o_dragCell a_o_dragBy a_o_sums a_o_shares a_o_keptFar a_o_image a_o_lanes a_o_sizes a_o_items a_o_movedItems o_taped o_at o_wrong o_level o_noRings o_noTones o_noFuel o_pieces o_drags o_all o_noPieces o_noDrags o_kept o_tape _ (okb2 hw)) (cwV 0 hts (gdV (fun w h => List.mem_cons_of_mem _ h) q_877 q_879 qs_26 q_8 q_880) rfl rfl rfl (by decide +kernel) ⟨Nat.le_of_ble_eq_true rfl, Nat.le_of_ble_eq_true rfl⟩) ⟨(kpre zN_ok hK hPc hDc trivial hS hFc).1, va_recv hK hP (ci := 7) (q0 := 0) rfl rfl, (kpre zN_ok hK hPc hDc trivial hS hFc).2⟩ rfl rfl hl.1 rfl (lv_room (Nat.le_of_ble_eq_true rfl)) dX7_sea_95 ⟨Nat.le_of_ble_eq_true rfl, Nat.le_of_ble_eq_true rfl⟩) hP hD hS hFc [0, 2] [1, 3] rfl rfl (by decide +kernel) (by decide +kernel) (fun r_12 w_13 H locs hw hP hD hS => ?_)
          try dsimp only at hw
          have hP : va_P (dC, dI) vwCl (W_X7_sea cyI cyJ cyO h_o a_o_sets a_o_ringFar a_o_ringTone a_o_currents a_o_warmths a_o_depths a_o_tape a_o_readFar a_o_readTone a_o_readSea a_o_code a_o_cellAt a_o_courseAt a_o_paceAt a_o_turnsAt a_o_slowAt a_o_fuelAt a_o_ringAt a_o_pieceParts a_o_dragCell a_o_dragBy a_o_sums a_o_shares a_o_keptFar a_o_image a_o_lanes a_o_sizes a_o_items a_o_movedItems o_taped w_13 o_wrong o_level o_noRings o_noTones o_noFuel o_pieces o_drags o_all o_noPieces o_noDrags o_kept o_currents o_tape o_readSea) H := hP.sub [2, 0, 3, 1] rfl
          have hD : va_D A (W_X7_sea cyI cyJ cyO h_o a_o_sets a_o_ringFar a_o_ringTone a_o_currents a_o_warmths a_o_depths a_o_tape a_o_readFar a_o_readTone a_o_readSea a_o_code a_o_cellAt a_o_courseAt a_o_paceAt a_o_turnsAt a_o_slowAt a_o_fuelAt a_o_ringAt a_o_pieceParts a_o_dragCell a_o_dragBy a_o_sums a_o_shares a_o_keptFar a_o_image a_o_lanes a_o_sizes a_o_items a_o_movedItems o_taped w_13 o_wrong o_level o_noRings o_noTones o_noFuel o_pieces o_drags o_all o_noPieces o_noDrags o_kept o_currents o_tape o_readSea) := hD.sub [2, 0, 3, 1] (by decide +kernel) rfl
          clear hPc hDc hFc
          refine lv_if_eq (tgt := 105) hx hb dX7_sea_98 (by decide) (fun c_14 => ?_) (fun c_14 => ?_)
          · replace hw := okT hw c_14
            clear c_14
            refine lv_iconst (v := 0) hx hb dX7_sea_105 (by decide) ?_
            exact w106 v1 v2 v3 0 o_taped w_13 o_wrong o_currents o_readSea _ _ hP hD hS _ (lv_sub hl [0, 1, 2, 3] rfl) hw
          · replace hw := okF hw c_14
            clear c_14
            exact w101 v1 v2 v3 o_taped w_13 o_wrong o_currents o_readSea _ _ hP hD hS _ (lv_sub hl [0, 1, 2, 3] rfl) hw
      · replace hw := okF hw c_10
        clear c_10
        refine lv_aload_n hx hb dX7_sea_46 rfl (lv_at hl 0 rfl) ?_
        refine va_get (D := (dC, dI)) (ci := 7) (v := .ref a_o_readSea) (C := RX7) (T := TX7) (N := 42) hx hb hts hi7 hown hK hP 0 rfl rfl 12 (by decide) hq2 (fun _ h9 => h9) rfl dX7_sea_47 ?_
        refine lv_iload hx hb dX7_sea_50 (lv_at hl 4 rfl) ?_
        refine lv_aload_n hx hb dX7_sea_52 rfl (lv_at hl 0 rfl) ?_
        refine lv_iconst (v := 0) hx hb dX7_sea_53 (by decide) ?_
        refine lv_bipush (v := 8) hx hb dX7_sea_54 (by decide) ?_
        have hPc := hP.sub (ws' := (W_X7_digit cyI cyJ cyO h_o a_o_sets a_o_ringFar a_o_ringTone a_o_currents a_o_warmths a_o_depths a_o_tape a_o_readFar a_o_readTone a_o_readSea a_o_code a_o_cellAt a_o_courseAt a_o_paceAt a_o_turnsAt a_o_slowAt a_o_fuelAt a_o_ringAt a_o_pieceParts a_o_dragCell a_o_dragBy a_o_sums a_o_shares a_o_keptFar a_o_image a_o_lanes a_o_sizes a_o_items a_o_movedItems o_taped o_at o_wrong o_level o_noRings o_noTones o_noFuel o_pieces o_drags o_all o_noPieces o_noDrags o_kept o_tape)) [0, 2] rfl
        have hDc := hD.sub (ws' := (W_X7_digit cyI cyJ cyO h_o a_o_sets a_o_ringFar a_o_ringTone a_o_currents a_o_warmths a_o_depths a_o_tape a_o_readFar a_o_readTone a_o_readSea a_o_code a_o_cellAt a_o_courseAt a_o_paceAt a_o_turnsAt a_o_slowAt a_o_fuelAt a_o_ringAt a_o_pieceParts a_o_dragCell a_o_dragBy a_o_sums a_o_shares a_o_keptFar a_o_image a_o_lanes a_o_sizes a_o_items a_o_movedItems o_taped o_at o_wrong o_level o_noRings o_noTones o_noFuel o_pieces o_drags o_all o_noPieces o_noDrags o_kept o_tape)) [0, 2] (by decide +kernel) rfl
        have hFc := va_free (wc := (W_X7_digit cyI cyJ cyO h_o a_o_sets a_o_ringFar a_o_ringTone a_o_currents a_o_warmths a_o_depths a_o_tape a_o_readFar a_o_readTone a_o_readSea a_o_code a_o_cellAt a_o_courseAt a_o_paceAt a_o_turnsAt a_o_slowAt a_o_fuelAt a_o_ringAt a_o_pieceParts a_o_dragCell a_o_dragBy a_o_sums a_o_shares a_o_keptFar a_o_image a_o_lanes a_o_sizes a_o_items a_o_movedItems o_taped o_at o_wrong o_level o_noRings o_noTones o_noFuel o_pieces o_drags o_all o_noPieces o_noDrags o_kept o_tape)) hD hS hA [0, 2] rfl
        refine kc_i (wr := [(a_o_currents, .inl (cyI, 200, .inl o_currents)), (a_o_readSea, .inl (cyI, 10, .inl o_readSea))]) (va_runV (As := [.int 0, .int 8]) (rest := [.int v4, .ref a_o_readSea]) ⟨hx, hb, hml, hown, hts⟩ (c_X7_digit l dC dI cyI cyJ cyO H.size h_o a_o_sets a_o_ringFar a_o_ringTone a_o_currents a_o_warmths a_o_depths a_o_tape a_o_readFar a_o_readTone a_o_readSea a_o_code a_o_cellAt a_o_courseAt a_o_paceAt a_o_turnsAt a_o_slowAt a_o_fuelAt a_o_ringAt a_o_pieceParts a_o_dragCell a_o_dragBy a_o_sums a_o_shares a_o_keptFar a_o_image a_o_lanes a_o_sizes a_o_items a_o_movedItems o_taped o_at o_wrong o_level o_noRings o_noTones o_noFuel o_pieces o_drags o_all o_noPieces o_noDrags o_kept o_tape 0 8 _ (okb3 hw)) (cwV 2 hts (gdV (fun w h => List.mem_cons_of_mem _ h) q_873 q_875 qs_25 q_8 q_876) rfl rfl rfl (by decide +kernel) ⟨Nat.le_of_ble_eq_true rfl, Nat.le_of_ble_eq_true rfl⟩) ⟨(kpre zN_ok hK hPc hDc trivial hS hFc).1, va_recv hK hP (ci := 7) (q0 := 0) rfl rfl, (kpre zN_ok hK hPc hDc trivial hS hFc).2⟩ rfl rfl hl.1 rfl (lv_room (Nat.le_of_ble_eq_true rfl)) dX7_sea_56 ⟨Nat.le_of_ble_eq_true rfl, Nat.le_of_ble_eq_true rfl⟩) hP hD hS hFc [0, 2] [1, 3] rfl rfl (by decide +kernel) (by decide +kernel) (fun r_15 u H locs hw hP hD hS => ?_)
        obtain ⟨w_16, w_17⟩ := u
        try dsimp only at hw
        have hP : va_P (dC, dI) vwCl (W_X7_sea cyI cyJ cyO h_o a_o_sets a_o_ringFar a_o_ringTone a_o_currents a_o_warmths a_o_depths a_o_tape a_o_readFar a_o_readTone a_o_readSea a_o_code a_o_cellAt a_o_courseAt a_o_paceAt a_o_turnsAt a_o_slowAt a_o_fuelAt a_o_ringAt a_o_pieceParts a_o_dragCell a_o_dragBy a_o_sums a_o_shares a_o_keptFar a_o_image a_o_lanes a_o_sizes a_o_items a_o_movedItems o_taped w_16 w_17 o_level o_noRings o_noTones o_noFuel o_pieces o_drags o_all o_noPieces o_noDrags o_kept o_currents o_tape o_readSea) H := hP.sub [2, 0, 3, 1] rfl
        have hD : va_D A (W_X7_sea cyI cyJ cyO h_o a_o_sets a_o_ringFar a_o_ringTone a_o_currents a_o_warmths a_o_depths a_o_tape a_o_readFar a_o_readTone a_o_readSea a_o_code a_o_cellAt a_o_courseAt a_o_paceAt a_o_turnsAt a_o_slowAt a_o_fuelAt a_o_ringAt a_o_pieceParts a_o_dragCell a_o_dragBy a_o_sums a_o_shares a_o_keptFar a_o_image a_o_lanes a_o_sizes a_o_items a_o_movedItems o_taped w_16 w_17 o_level o_noRings o_noTones o_noFuel o_pieces o_drags o_all o_noPieces o_noDrags o_kept o_currents o_tape o_readSea) := hD.sub [2, 0, 3, 1] (by decide +kernel) rfl
        clear hPc hDc hFc
        obtain ⟨h_18, hw⟩ := okC hw
        refine va_iast (i := v4) (x := r_15) hx hb hK hP hD hS 3 0 rfl rfl h_18 dX7_sea_59 (fun H locs hP hD hS => ?_)
        have hP : va_P (dC, dI) vwCl (W_X7_sea cyI cyJ cyO h_o a_o_sets a_o_ringFar a_o_ringTone a_o_currents a_o_warmths a_o_depths a_o_tape a_o_readFar a_o_readTone a_o_readSea a_o_code a_o_cellAt a_o_courseAt a_o_paceAt a_o_turnsAt a_o_slowAt a_o_fuelAt a_o_ringAt a_o_pieceParts a_o_dragCell a_o_dragBy a_o_sums a_o_shares a_o_keptFar a_o_image a_o_lanes a_o_sizes a_o_items a_o_movedItems o_taped w_16 w_17 o_level o_noRings o_noTones o_noFuel o_pieces o_drags o_all o_noPieces o_noDrags o_kept o_currents o_tape (upd o_readSea v4.toNatClampNeg r_15)) H := hP
        have hD : va_D A (W_X7_sea cyI cyJ cyO h_o a_o_sets a_o_ringFar a_o_ringTone a_o_currents a_o_warmths a_o_depths a_o_tape a_o_readFar a_o_readTone a_o_readSea a_o_code a_o_cellAt a_o_courseAt a_o_paceAt a_o_turnsAt a_o_slowAt a_o_fuelAt a_o_ringAt a_o_pieceParts a_o_dragCell a_o_dragBy a_o_sums a_o_shares a_o_keptFar a_o_image a_o_lanes a_o_sizes a_o_items a_o_movedItems o_taped w_16 w_17 o_level o_noRings o_noTones o_noFuel o_pieces o_drags o_all o_noPieces o_noDrags o_kept o_currents o_tape (upd o_readSea v4.toNatClampNeg r_15)) := hD
        refine lv_iload_n hx hb dX7_sea_60 rfl (lv_at hl 3 rfl) ?_
        refine lv_aload_n hx hb dX7_sea_61 rfl (lv_at hl 0 rfl) ?_
        refine va_get (D := (dC, dI)) (ci := 7) (v := .ref a_o_readSea) (C := RX7) (T := TX7) (N := 42) hx hb hts hi7 hown hK hP 0 rfl rfl 12 (by decide) hq2 (fun _ h9 => h9) rfl dX7_sea_62 ?_
        refine lv_iload hx hb dX7_sea_65 (lv_at hl 4 rfl) ?_
        obtain ⟨h_19, hw⟩ := okC hw
        refine va_iald (i := v4) hx hb hK hP 3 0 rfl rfl h_19 dX7_sea_67 ?_
        refine lv_bipush (v := 8) hx hb dX7_sea_68 (by decide) ?_
        refine lv_icmp_ge (tgt := 77) hx hb dX7_sea_70 (by decide) (fun c_20 => ?_) (fun c_20 => ?_)
        · replace hw := okT hw c_20
          clear c_20
          refine lv_iconst (v := 0) hx hb dX7_sea_77 (by decide) ?_
          exact w78 v1 v2 v4 0 v3 o_taped w_16 w_17 o_currents (upd o_readSea v4.toNatClampNeg r_15) _ _ hP hD hS _ (lv_sub hl [0, 1, 2, 4] rfl) hw
        · replace hw := okF hw c_20
          clear c_20
          refine lv_iconst (v := 1) hx hb dX7_sea_73 (by decide) ?_
          refine lv_goto (tgt := 78) hx hb dX7_sea_74 (by decide) ?_
          exact w78 v1 v2 v4 1 v3 o_taped w_16 w_17 o_currents (upd o_readSea v4.toNatClampNeg r_15) _ _ hP hD hS _ (lv_sub hl [0, 1, 2, 4] rfl) hw
  unfold f_X7_sea at hw
  have hP : va_P (dC, dI) vwCl (W_X7_sea cyI cyJ cyO h_o a_o_sets a_o_ringFar a_o_ringTone a_o_currents a_o_warmths a_o_depths a_o_tape a_o_readFar a_o_readTone a_o_readSea a_o_code a_o_cellAt a_o_courseAt a_o_paceAt a_o_turnsAt a_o_slowAt a_o_fuelAt a_o_ringAt a_o_pieceParts a_o_dragCell a_o_dragBy a_o_sums a_o_shares a_o_keptFar a_o_image a_o_lanes a_o_sizes a_o_items a_o_movedItems o_taped o_at o_wrong o_level o_noRings o_noTones o_noFuel o_pieces o_drags o_all o_noPieces o_noDrags o_kept o_currents o_tape o_readSea) s.heap := hP
  obtain ⟨H, hH⟩ : ∃ H, H = s.heap := ⟨_, rfl⟩
  obtain ⟨locs, hlo⟩ : ∃ x : List Loc, x = [] := ⟨_, rfl⟩
  have hP : va_P (dC, dI) vwCl (W_X7_sea cyI cyJ cyO h_o a_o_sets a_o_ringFar a_o_ringTone a_o_currents a_o_warmths a_o_depths a_o_tape a_o_readFar a_o_readTone a_o_readSea a_o_code a_o_cellAt a_o_courseAt a_o_paceAt a_o_turnsAt a_o_slowAt a_o_fuelAt a_o_ringAt a_o_pieceParts a_o_dragCell a_o_dragBy a_o_sums a_o_shares a_o_keptFar a_o_image a_o_lanes a_o_sizes a_o_items a_o_movedItems o_taped o_at o_wrong o_level o_noRings o_noTones o_noFuel o_pieces o_drags o_all o_noPieces o_noDrags o_kept o_currents o_tape o_readSea) H := by rw [hH]; exact hP
  have hS : va_S A s.heap H locs := by rw [hH, hlo]; exact hS
  refine kH hH hlo ?_
  clear hH hlo
  refine lv_iload_n hx hb dX7_sea_0 rfl (lv_at hl 1 rfl) ?_
  refine lv_i2l (v := x1.toInt64) hx hb dX7_sea_1 rfl ?_
  refine lv_lconst (v := 0) hx hb dX7_sea_2 (by decide) ?_
  refine lv_lconst (v := 1) hx hb dX7_sea_3 (by decide) ?_
  have hFc := va_free (wc := []) hD hS hA [] rfl
  refine kp_i (va_runS (As := [.long x1.toInt64, .long 0, .long 1]) (rest := []) ⟨hx, hb, hml, hown, hts⟩ (c_X7_in l dC dI cyI cyJ cyO H.size x1.toInt64 0 1 _ (okb1 hw)) (va_cwS 3 hts (gdS (fun w h => List.mem_cons_of_mem _ h) q_838 q_839 q_8 q_840) rfl rfl rfl (by decide +kernel) ⟨Nat.le_of_ble_eq_true rfl, Nat.le_of_ble_eq_true rfl⟩) (kpre zN_ok hK va_P0 va_D0 trivial hS hFc) rfl rfl hl.1 rfl (lv_room (Nat.le_of_ble_eq_true rfl)) dX7_sea_4 ⟨Nat.le_of_ble_eq_true rfl, Nat.le_of_ble_eq_true rfl⟩) hP hD hS hFc (fun r_21 H locs hw hP hS => ?_)
  try dsimp only at hw
  clear hFc
  refine lv_if_eq (tgt := 22) hx hb dX7_sea_7 (by decide) (fun c_22 => ?_) (fun c_22 => ?_)
  · replace hw := okT hw c_22
    clear c_22
    refine lv_iconst (v := (-1)) hx hb dX7_sea_22 (by decide) ?_
    rw [hQ]
    exact W.iret (v := (-1)) hx hb hr (fun t ht hW => ⟨⟨(-1), (o_taped, o_at, o_wrong, o_currents, o_readSea), rfl, okS hw, by rw [ht]; exact hP, va_K.moved hW.alike hK, hD⟩, hS.F ht⟩) hS.2.2 dX7_sea_23
  · replace hw := okF hw c_22
    clear c_22
    refine lv_iload_n hx hb dX7_sea_10 rfl (lv_at hl 2 rfl) ?_
    refine lv_i2l (v := x2.toInt64) hx hb dX7_sea_11 rfl ?_
    refine lv_lconst (v := 0) hx hb dX7_sea_12 (by decide) ?_
    refine lv_ldc2 (v := 9) hx hb hown hq6 dX7_sea_13 ?_
    have hFc := va_free (wc := []) hD hS hA [] rfl
    refine kp_i (va_runS (As := [.long x2.toInt64, .long 0, .long 9]) (rest := []) ⟨hx, hb, hml, hown, hts⟩ (c_X7_in l dC dI cyI cyJ cyO H.size x2.toInt64 0 9 _ (okb1 hw)) (va_cwS 3 hts (gdS (fun w h => List.mem_cons_of_mem _ h) q_838 q_839 q_8 q_840) rfl rfl rfl (by decide +kernel) ⟨Nat.le_of_ble_eq_true rfl, Nat.le_of_ble_eq_true rfl⟩) (kpre zN_ok hK va_P0 va_D0 trivial hS hFc) rfl rfl hl.1 rfl (lv_room (Nat.le_of_ble_eq_true rfl)) dX7_sea_16 ⟨Nat.le_of_ble_eq_true rfl, Nat.le_of_ble_eq_true rfl⟩) hP hD hS hFc (fun r_23 H locs hw hP hS => ?_)
    try dsimp only at hw
    clear hFc
    refine lv_if_ne (tgt := 24) hx hb dX7_sea_19 (by decide) (fun c_24 => ?_) (fun c_24 => ?_)
    · replace hw := okF hw c_24
      clear c_24
      refine lv_aload_n hx hb dX7_sea_24 rfl (lv_at hl 0 rfl) ?_
      refine lv_iconst (v := 0) hx hb dX7_sea_25 (by decide) ?_
      refine va_put (D := (dC, dI)) (ci := 7) (v := .int 0) (ty := .int) (C := RX7) (T := TX7) (N := 42) hx hb hts hi7 tyX7 tyX7_ok nmX7 hown hK hP hD hS 0 rfl rfl 8 (by decide) hq5 (fun _ h9 => h9) rfl (by decide +kernel) rfl rfl (Nat.le_of_ble_eq_true rfl) dX7_sea_26 (fun H locs hP hD hS => ?_)
      have hP : va_P (dC, dI) vwCl (W_X7_sea cyI cyJ cyO h_o a_o_sets a_o_ringFar a_o_ringTone a_o_currents a_o_warmths a_o_depths a_o_tape a_o_readFar a_o_readTone a_o_readSea a_o_code a_o_cellAt a_o_courseAt a_o_paceAt a_o_turnsAt a_o_slowAt a_o_fuelAt a_o_ringAt a_o_pieceParts a_o_dragCell a_o_dragBy a_o_sums a_o_shares a_o_keptFar a_o_image a_o_lanes a_o_sizes a_o_items a_o_movedItems o_taped 0 o_wrong o_level o_noRings o_noTones o_noFuel o_pieces o_drags o_all o_noPieces o_noDrags o_kept o_currents o_tape o_readSea) H := hP
      have hD : va_D A (W_X7_sea cyI cyJ cyO h_o a_o_sets a_o_ringFar a_o_ringTone a_o_currents a_o_warmths a_o_depths a_o_tape a_o_readFar a_o_readTone a_o_readSea a_o_code a_o_cellAt a_o_courseAt a_o_paceAt a_o_turnsAt a_o_slowAt a_o_fuelAt a_o_ringAt a_o_pieceParts a_o_dragCell a_o_dragBy a_o_sums a_o_shares a_o_keptFar a_o_image a_o_lanes a_o_sizes a_o_items a_o_movedItems o_taped 0 o_wrong o_level o_noRings o_noTones o_noFuel o_pieces o_drags o_all o_noPieces o_noDrags o_kept o_currents o_tape o_readSea) := hD
      refine lv_aload_n hx hb dX7_sea_29 rfl (lv_at hl 0 rfl) ?_
      refine lv_iconst (v := 0) hx hb dX7_sea_30 (by decide) ?_
      refine va_put (D := (dC, dI)) (ci := 7) (v := .int 0) (ty := .boolean) (C := RX7) (T := TX7) (N := 42) hx hb hts hi7 tyX7 tyX7_ok nmX7 hown hK hP hD hS 0 rfl rfl 9 (by decide) hq3 (fun _ h9 => h9) rfl (by decide +kernel) rfl rfl (Nat.le_of_ble_eq_true rfl) dX7_sea_31 (fun H locs hP hD hS => ?_)
      have hP : va_P (dC, dI) vwCl (W_X7_sea cyI cyJ cyO h_o a_o_sets a_o_ringFar a_o_ringTone a_o_currents a_o_warmths a_o_depths a_o_tape a_o_readFar a_o_readTone a_o_readSea a_o_code a_o_cellAt a_o_courseAt a_o_paceAt a_o_turnsAt a_o_slowAt a_o_fuelAt a_o_ringAt a_o_pieceParts a_o_dragCell a_o_dragBy a_o_sums a_o_shares a_o_keptFar a_o_image a_o_lanes a_o_sizes a_o_items a_o_movedItems o_taped 0 0 o_level o_noRings o_noTones o_noFuel o_pieces o_drags o_all o_noPieces o_noDrags o_kept o_currents o_tape o_readSea) H := hP
      have hD : va_D A (W_X7_sea cyI cyJ cyO h_o a_o_sets a_o_ringFar a_o_ringTone a_o_currents a_o_warmths a_o_depths a_o_tape a_o_readFar a_o_readTone a_o_readSea a_o_code a_o_cellAt a_o_courseAt a_o_paceAt a_o_turnsAt a_o_slowAt a_o_fuelAt a_o_ringAt a_o_pieceParts a_o_dragCell a_o_dragBy a_o_sums a_o_shares a_o_keptFar a_o_image a_o_lanes a_o_sizes a_o_items a_o_movedItems o_taped 0 0 o_level o_noRings o_noTones o_noFuel o_pieces o_drags o_all o_noPieces o_noDrags o_kept o_currents o_tape o_readSea) := hD
      refine lv_iconst (v := 0) hx hb dX7_sea_34 (by decide) ?_
      refine lv_istore_n (lv' := [(3, .int 0), (0, .ref h_o), (1, .int x1), (2, .int x2)]) hx hb dX7_sea_35 rfl hl (by decide) rfl (fun ls hl => ?_)
      refine lv_iconst (v := 0) hx hb dX7_sea_36 (by decide) ?_
      refine lv_istore (lv' := [(4, .int 0), (3, .int 0), (0, .ref h_o), (1, .int x1), (2, .int x2)]) hx hb dX7_sea_37 hl (by decide) rfl (fun ls hl => ?_)
      exact w39 FU x1 x2 0 0 o_taped 0 0 o_currents o_readSea _ _ hP hD hS _ (lv_sub hl [2, 3, 4, 1, 0] rfl) hw
    · replace hw := okT hw c_24
      clear c_24
      refine lv_iconst (v := (-1)) hx hb dX7_sea_22 (by decide) ?_
      rw [hQ]
      exact W.iret (v := (-1)) hx hb hr (fun t ht hW => ⟨⟨(-1), (o_taped, o_at, o_wrong, o_currents, o_readSea), rfl, okS hw, by rw [ht]; exact hP, va_K.moved hW.alike hK, hD⟩, hS.F ht⟩) hS.2.2 dX7_sea_23
/-! ===== X7_begins ===== -/
theorem dX7_begins_0 : decode cX7_begins 0 = .ok (.aload_n 0, 1) := by decide +kernel
theorem dX7_begins_1 : decode cX7_begins 1 = .ok (.iconst 0, 1) := by decide +kernel
theorem dX7_begins_2 : decode cX7_begins 2 = .ok (.putfield 164, 3) := by decide +kernel
theorem dX7_begins_5 : decode cX7_begins 5 = .ok (.aload_n 0, 1) := by decide +kernel
theorem dX7_begins_6 : decode cX7_begins 6 = .ok (.getfield 40, 3) := by decide +kernel
theorem dX7_begins_9 : decode cX7_begins 9 = .ok (.iconst 0, 1) := by decide +kernel
theorem dX7_begins_10 : decode cX7_begins 10 = .ok (.iconst (-1), 1) := by decide +kernel
theorem dX7_begins_11 : decode cX7_begins 11 = .ok (.iastore, 1) := by decide +kernel
theorem dX7_begins_12 : decode cX7_begins 12 = .ok (.aload_n 0, 1) := by decide +kernel
theorem dX7_begins_13 : decode cX7_begins 13 = .ok (.getfield 43, 3) := by decide +kernel
theorem dX7_begins_16 : decode cX7_begins 16 = .ok (.iconst 0, 1) := by decide +kernel
theorem dX7_begins_17 : decode cX7_begins 17 = .ok (.aload_n 0, 1) := by decide +kernel
theorem dX7_begins_18 : decode cX7_begins 18 = .ok (.getfield 7, 3) := by decide +kernel
theorem dX7_begins_21 : decode cX7_begins 21 = .ok (.iconst 1, 1) := by decide +kernel
theorem dX7_begins_22 : decode cX7_begins 22 = .ok (.iaload, 1) := by decide +kernel
theorem dX7_begins_23 : decode cX7_begins 23 = .ok (.iastore, 1) := by decide +kernel
theorem dX7_begins_24 : decode cX7_begins 24 = .ok (.aload_n 0, 1) := by decide +kernel
theorem dX7_begins_25 : decode cX7_begins 25 = .ok (.getfield 52, 3) := by decide +kernel
theorem dX7_begins_28 : decode cX7_begins 28 = .ok (.iconst 0, 1) := by decide +kernel
theorem dX7_begins_29 : decode cX7_begins 29 = .ok (.iconst 0, 1) := by decide +kernel
theorem dX7_begins_30 : decode cX7_begins 30 = .ok (.iastore, 1) := by decide +kernel
theorem dX7_begins_31 : decode cX7_begins 31 = .ok (.aload_n 0, 1) := by decide +kernel
theorem dX7_begins_32 : decode cX7_begins 32 = .ok (.getfield 55, 3) := by decide +kernel
theorem dX7_begins_35 : decode cX7_begins 35 = .ok (.iconst 0, 1) := by decide +kernel
theorem dX7_begins_36 : decode cX7_begins 36 = .ok (.iconst 0, 1) := by decide +kernel
theorem dX7_begins_37 : decode cX7_begins 37 = .ok (.iastore, 1) := by decide +kernel
theorem dX7_begins_38 : decode cX7_begins 38 = .ok (.aload_n 0, 1) := by decide +kernel
theorem dX7_begins_39 : decode cX7_begins 39 = .ok (.getfield 58, 3) := by decide +kernel
theorem dX7_begins_42 : decode cX7_begins 42 = .ok (.iconst 0, 1) := by decide +kernel
theorem dX7_begins_43 : decode cX7_begins 43 = .ok (.iconst 0, 1) := by decide +kernel
theorem dX7_begins_44 : decode cX7_begins 44 = .ok (.iastore, 1) := by decide +kernel
theorem dX7_begins_45 : decode cX7_begins 45 = .ok (.aload_n 0, 1) := by decide +kernel
theorem dX7_begins_46 : decode cX7_begins 46 = .ok (.getfield 61, 3) := by decide +kernel
theorem dX7_begins_49 : decode cX7_begins 49 = .ok (.iconst 0, 1) := by decide +kernel
theorem dX7_begins_50 : decode cX7_begins 50 = .ok (.iconst 1, 1) := by decide +kernel
theorem dX7_begins_51 : decode cX7_begins 51 = .ok (.iastore, 1) := by decide +kernel
theorem dX7_begins_52 : decode cX7_begins 52 = .ok (.return_, 1) := by decide +kernel
abbrev W_X7_begins (cyI cyJ cyO : ClassId) (h_o a_o_sets a_o_ringFar a_o_ringTone a_o_currents a_o_warmths a_o_depths a_o_tape a_o_readFar a_o_readTone a_o_readSea a_o_code a_o_cellAt a_o_courseAt a_o_paceAt a_o_turnsAt a_o_slowAt a_o_fuelAt a_o_ringAt a_o_pieceParts a_o_dragCell a_o_dragBy a_o_sums a_o_shares a_o_keptFar a_o_image a_o_lanes a_o_sizes a_o_items a_o_movedItems : Nat) (o_taped : Int32) (o_at : Int32) (o_wrong : Int32) (o_level : Int32) (o_noRings : Int32) (o_noTones : Int32) (o_noFuel : Int32) (o_pieces : Int32) (o_drags : Int32) (o_all : Int64) (o_noPieces : Int32) (o_noDrags : Int32) (o_kept : Int32) (o_sets : Nat → Int32) (o_code : Nat → Int32) (o_cellAt : Nat → Int32) (o_turnsAt : Nat → Int32) (o_slowAt : Nat → Int32) (o_fuelAt : Nat → Int32) (o_ringAt : Nat → Int32) : va_W := [(h_o, .inr (7, [.ref a_o_sets, .ref a_o_ringFar, .ref a_o_ringTone, .ref a_o_currents, .ref a_o_warmths, .ref a_o_depths, .ref a_o_tape, .int o_taped, .int o_at, .int o_wrong, .ref a_o_readFar, .ref a_o_readTone, .ref a_o_readSea, .ref a_o_code, .ref a_o_cellAt, .ref a_o_courseAt, .ref a_o_paceAt, .ref a_o_turnsAt, .ref a_o_slowAt, .ref a_o_fuelAt, .ref a_o_ringAt, .int o_level, .int o_noRings, .int o_noTones, .int o_noFuel, .int o_pieces, .ref a_o_pieceParts, .int o_drags, .ref a_o_dragCell, .ref a_o_dragBy, .ref a_o_sums, .long o_all, .int o_noPieces, .int o_noDrags, .ref a_o_shares, .ref a_o_keptFar, .ref a_o_image, .int o_kept, .ref a_o_lanes, .ref a_o_sizes, .ref a_o_items, .ref a_o_movedItems])), (a_o_sets, .inl (cyI, 8, .inl o_sets)), (a_o_code, .inl (cyI, 7, .inl o_code)), (a_o_cellAt, .inl (cyI, 7, .inl o_cellAt)), (a_o_turnsAt, .inl (cyI, 7, .inl o_turnsAt)), (a_o_slowAt, .inl (cyI, 7, .inl o_slowAt)), (a_o_fuelAt, .inl (cyI, 7, .inl o_fuelAt)), (a_o_ringAt, .inl (cyI, 7, .inl o_ringAt))]
def f_X7_begins (o_level : Int32) (o_sets : Nat → Int32) (o_code : Nat → Int32) (o_cellAt : Nat → Int32) (o_turnsAt : Nat → Int32) (o_slowAt : Nat → Int32) (o_fuelAt : Nat → Int32) (o_ringAt : Nat → Int32) : Option (Int32 × (Nat → Int32) × (Nat → Int32) × (Nat → Int32) × (Nat → Int32) × (Nat → Int32) × (Nat → Int32)) :=
  nm (o_sets 1) fun x_1 =>
  some (0, upd o_code 0 (-1), upd o_cellAt 0 x_1, upd o_turnsAt 0 0, upd o_slowAt 0 0, upd o_fuelAt 0 0, upd o_ringAt 0 1)
abbrev rm_X7_begins : Room := { frames := 0, cells := 0, slots := 0, locals := 0 }
set_option maxRecDepth 100000 in
set_option maxHeartbeats 4000000 in
theorem c_X7_begins (l : Launch) (dC : Nat → ClassId) (dI : Nat → Nat → Nat) (cyI cyJ cyO : ClassId) (sz : Nat) (h_o a_o_sets a_o_ringFar a_o_ringTone a_o_currents a_o_warmths a_o_depths a_o_tape a_o_readFar a_o_readTone a_o_readSea a_o_code a_o_cellAt a_o_courseAt a_o_paceAt a_o_turnsAt a_o_slowAt a_o_fuelAt a_o_ringAt a_o_pieceParts a_o_dragCell a_o_dragBy a_o_sums a_o_shares a_o_keptFar a_o_image a_o_lanes a_o_sizes a_o_items a_o_movedItems : Nat) (o_taped : Int32) (o_at : Int32) (o_wrong : Int32) (o_level : Int32) (o_noRings : Int32) (o_noTones : Int32) (o_noFuel : Int32) (o_pieces : Int32) (o_drags : Int32) (o_all : Int64) (o_noPieces : Int32) (o_noDrags : Int32) (o_kept : Int32) (o_sets : Nat → Int32) (o_code : Nat → Int32) (o_cellAt : Nat → Int32) (o_turnsAt : Nat → Int32) (o_slowAt : Nat → Int32) (o_fuelAt : Nat → Int32) (o_ringAt : Nat → Int32) (post : (Int32 × (Nat → Int32) × (Nat → Int32) × (Nat → Int32) × (Nat → Int32) × (Nat → Int32) × (Nat → Int32)) → Prop) (hf : okP (f_X7_begins o_level o_sets o_code o_cellAt o_turnsAt o_slowAt o_fuelAt o_ringAt) post) : Cv l (dC, dI) (tyL cyI cyJ cyO) yX7_begins wsX7_begins rm_X7_begins [.ref h_o] sz (W_X7_begins cyI cyJ cyO h_o a_o_sets a_o_ringFar a_o_ringTone a_o_currents a_o_warmths a_o_depths a_o_tape a_o_readFar a_o_readTone a_o_readSea a_o_code a_o_cellAt a_o_courseAt a_o_paceAt a_o_turnsAt a_o_slowAt a_o_fuelAt a_o_ringAt a_o_pieceParts a_o_dragCell a_o_dragBy a_o_sums a_o_shares a_o_keptFar a_o_image a_o_lanes a_o_sizes a_o_items a_o_movedItems o_taped o_at o_wrong o_level o_noRings o_noTones o_noFuel o_pieces o_drags o_all o_noPieces o_noDrags o_kept o_sets o_code o_cellAt o_turnsAt o_slowAt o_fuelAt o_ringAt) zN (fun u => post u) (fun u => (W_X7_begins cyI cyJ cyO h_o a_o_sets a_o_ringFar a_o_ringTone a_o_currents a_o_warmths a_o_depths a_o_tape a_o_readFar a_o_readTone a_o_readSea a_o_code a_o_cellAt a_o_courseAt a_o_paceAt a_o_turnsAt a_o_slowAt a_o_fuelAt a_o_ringAt a_o_pieceParts a_o_dragCell a_o_dragBy a_o_sums a_o_shares a_o_keptFar a_o_image a_o_lanes a_o_sizes a_o_items a_o_movedItems o_taped o_at o_wrong u.1 o_noRings o_noTones o_noFuel o_pieces o_drags o_all o_noPieces o_noDrags o_kept o_sets u.2.1 u.2.2.1 u.2.2.2.1 u.2.2.2.2.1 u.2.2.2.2.2.1 u.2.2.2.2.2.2)) := by
  refine Met.ofW (cc := cX7_begins) (maxL := 1) (ret := none) (by decide) rfl ?_
  intro p e s m args below meth c s₁ B hml hv
  obtain ⟨rfl, hsz, hP, hK, hD0, hZ⟩ := hv
  have hx := B.exec
  have hb := B.bytes
  have hr := B.returns
  have hts := atoms_spec (ws := wsX7_begins) B.pre
  have hown : s.vm.findClass RX7 = some m.cls := findClass_of_methodNamed B.named
  have hlocks := B.notSynchronized
  subst hsz
  have hD := hD0.self (sz := s.heap.size)
  generalize hAe : va_A (W_X7_begins cyI cyJ cyO h_o a_o_sets a_o_ringFar a_o_ringTone a_o_currents a_o_warmths a_o_depths a_o_tape a_o_readFar a_o_readTone a_o_readSea a_o_code a_o_cellAt a_o_courseAt a_o_paceAt a_o_turnsAt a_o_slowAt a_o_fuelAt a_o_ringAt a_o_pieceParts a_o_dragCell a_o_dragBy a_o_sums a_o_shares a_o_keptFar a_o_image a_o_lanes a_o_sizes a_o_items a_o_movedItems o_taped o_at o_wrong o_level o_noRings o_noTones o_noFuel o_pieces o_drags o_all o_noPieces o_noDrags o_kept o_sets o_code o_cellAt o_turnsAt o_slowAt o_fuelAt o_ringAt) s.heap.size = A at hD hZ ⊢
  have hA : ∀ q : Nat, s.heap.size ≤ q → A q := fun q h => by rw [← hAe]; exact Or.inr h
  clear hAe hD0
  have hS : va_S A s.heap s.heap [] := va_S.rf
  have hl := lv_entry ([.ref h_o]) (n := 1) (Nat.le_of_ble_eq_true rfl)
  rw [lg_entry_eq]
  generalize (lg_sl ([.ref h_o]) ++ List.replicate (1 - (lg_sl ([.ref h_o])).length) Slot.unset).toArray = ls at hl ⊢
  have hl : lv_has ls 1 [(0, .ref h_o)] := hl
  refine kW (fun Q hQ => ?_)
  have hq0 := hts _ (List.mem_cons_of_mem _ q_727)
  have hi7 : ∀ w ∈ u_ws RX7 TX7 42, w ∈ wsX7_begins := fun w h => List.mem_cons_of_mem _ (inX7 w h)
  have hq2 := hts _ (List.mem_cons_of_mem _ q_719)
  have hq3 := hts _ (List.mem_cons_of_mem _ q_720)
  have hq4 := hts _ (List.mem_cons_of_mem _ q_706)
  have hq5 := hts _ (List.mem_cons_of_mem _ q_723)
  have hq6 := hts _ (List.mem_cons_of_mem _ q_724)
  have hq7 := hts _ (List.mem_cons_of_mem _ q_725)
  have hq8 := hts _ (List.mem_cons_of_mem _ q_726)
  have hw := hf
  unfold f_X7_begins at hw
  have hP : va_P (dC, dI) vwCl (W_X7_begins cyI cyJ cyO h_o a_o_sets a_o_ringFar a_o_ringTone a_o_currents a_o_warmths a_o_depths a_o_tape a_o_readFar a_o_readTone a_o_readSea a_o_code a_o_cellAt a_o_courseAt a_o_paceAt a_o_turnsAt a_o_slowAt a_o_fuelAt a_o_ringAt a_o_pieceParts a_o_dragCell a_o_dragBy a_o_sums a_o_shares a_o_keptFar a_o_image a_o_lanes a_o_sizes a_o_items a_o_movedItems o_taped o_at o_wrong o_level o_noRings o_noTones o_noFuel o_pieces o_drags o_all o_noPieces o_noDrags o_kept o_sets o_code o_cellAt o_turnsAt o_slowAt o_fuelAt o_ringAt) s.heap := hP
  obtain ⟨H, hH⟩ : ∃ H, H = s.heap := ⟨_, rfl⟩
  obtain ⟨locs, hlo⟩ : ∃ x : List Loc, x = [] := ⟨_, rfl⟩
  have hP : va_P (dC, dI) vwCl (W_X7_begins cyI cyJ cyO h_o a_o_sets a_o_ringFar a_o_ringTone a_o_currents a_o_warmths a_o_depths a_o_tape a_o_readFar a_o_readTone a_o_readSea a_o_code a_o_cellAt a_o_courseAt a_o_paceAt a_o_turnsAt a_o_slowAt a_o_fuelAt a_o_ringAt a_o_pieceParts a_o_dragCell a_o_dragBy a_o_sums a_o_shares a_o_keptFar a_o_image a_o_lanes a_o_sizes a_o_items a_o_movedItems o_taped o_at o_wrong o_level o_noRings o_noTones o_noFuel o_pieces o_drags o_all o_noPieces o_noDrags o_kept o_sets o_code o_cellAt o_turnsAt o_slowAt o_fuelAt o_ringAt) H := by rw [hH]; exact hP
  have hS : va_S A s.heap H locs := by rw [hH, hlo]; exact hS
  refine kH hH hlo ?_
  clear hH hlo
  refine lv_aload_n hx hb dX7_begins_0 rfl (lv_at hl 0 rfl) ?_
  refine lv_iconst (v := 0) hx hb dX7_begins_1 (by decide) ?_
  refine va_put (D := (dC, dI)) (ci := 7) (v := .int 0) (ty := .int) (C := RX7) (T := TX7) (N := 42) hx hb hts hi7 tyX7 tyX7_ok nmX7 hown hK hP hD hS 0 rfl rfl 21 (by decide) hq0 (fun _ h9 => h9) rfl (by decide +kernel) rfl rfl (Nat.le_of_ble_eq_true rfl) dX7_begins_2 (fun H locs hP hD hS => ?_)
  have hP : va_P (dC, dI) vwCl (W_X7_begins cyI cyJ cyO h_o a_o_sets a_o_ringFar a_o_ringTone a_o_currents a_o_warmths a_o_depths a_o_tape a_o_readFar a_o_readTone a_o_readSea a_o_code a_o_cellAt a_o_courseAt a_o_paceAt a_o_turnsAt a_o_slowAt a_o_fuelAt a_o_ringAt a_o_pieceParts a_o_dragCell a_o_dragBy a_o_sums a_o_shares a_o_keptFar a_o_image a_o_lanes a_o_sizes a_o_items a_o_movedItems o_taped o_at o_wrong 0 o_noRings o_noTones o_noFuel o_pieces o_drags o_all o_noPieces o_noDrags o_kept o_sets o_code o_cellAt o_turnsAt o_slowAt o_fuelAt o_ringAt) H := hP
  have hD : va_D A (W_X7_begins cyI cyJ cyO h_o a_o_sets a_o_ringFar a_o_ringTone a_o_currents a_o_warmths a_o_depths a_o_tape a_o_readFar a_o_readTone a_o_readSea a_o_code a_o_cellAt a_o_courseAt a_o_paceAt a_o_turnsAt a_o_slowAt a_o_fuelAt a_o_ringAt a_o_pieceParts a_o_dragCell a_o_dragBy a_o_sums a_o_shares a_o_keptFar a_o_image a_o_lanes a_o_sizes a_o_items a_o_movedItems o_taped o_at o_wrong 0 o_noRings o_noTones o_noFuel o_pieces o_drags o_all o_noPieces o_noDrags o_kept o_sets o_code o_cellAt o_turnsAt o_slowAt o_fuelAt o_ringAt) := hD
  refine lv_aload_n hx hb dX7_begins_5 rfl (lv_at hl 0 rfl) ?_
  refine va_get (D := (dC, dI)) (ci := 7) (v := .ref a_o_code) (C := RX7) (T := TX7) (N := 42) hx hb hts hi7 hown hK hP 0 rfl rfl 13 (by decide) hq2 (fun _ h9 => h9) rfl dX7_begins_6 ?_
  refine lv_iconst (v := 0) hx hb dX7_begins_9 (by decide) ?_
  refine lv_iconst (v := (-1)) hx hb dX7_begins_10 (by decide) ?_
  refine va_iast (i := 0) (x := (-1)) hx hb hK hP hD hS 2 0 rfl rfl (show ¬ _ by decide) dX7_begins_11 (fun H locs hP hD hS => ?_)
  have hP : va_P (dC, dI) vwCl (W_X7_begins cyI cyJ cyO h_o a_o_sets a_o_ringFar a_o_ringTone a_o_currents a_o_warmths a_o_depths a_o_tape a_o_readFar a_o_readTone a_o_readSea a_o_code a_o_cellAt a_o_courseAt a_o_paceAt a_o_turnsAt a_o_slowAt a_o_fuelAt a_o_ringAt a_o_pieceParts a_o_dragCell a_o_dragBy a_o_sums a_o_shares a_o_keptFar a_o_image a_o_lanes a_o_sizes a_o_items a_o_movedItems o_taped o_at o_wrong 0 o_noRings o_noTones o_noFuel o_pieces o_drags o_all o_noPieces o_noDrags o_kept o_sets (upd o_code 0 (-1)) o_cellAt o_turnsAt o_slowAt o_fuelAt o_ringAt) H := hP
  have hD : va_D A (W_X7_begins cyI cyJ cyO h_o a_o_sets a_o_ringFar a_o_ringTone a_o_currents a_o_warmths a_o_depths a_o_tape a_o_readFar a_o_readTone a_o_readSea a_o_code a_o_cellAt a_o_courseAt a_o_paceAt a_o_turnsAt a_o_slowAt a_o_fuelAt a_o_ringAt a_o_pieceParts a_o_dragCell a_o_dragBy a_o_sums a_o_shares a_o_keptFar a_o_image a_o_lanes a_o_sizes a_o_items a_o_movedItems o_taped o_at o_wrong 0 o_noRings o_noTones o_noFuel o_pieces o_drags o_all o_noPieces o_noDrags o_kept o_sets (upd o_code 0 (-1)) o_cellAt o_turnsAt o_slowAt o_fuelAt o_ringAt) := hD
  refine lv_aload_n hx hb dX7_begins_12 rfl (lv_at hl 0 rfl) ?_
  refine va_get (D := (dC, dI)) (ci := 7) (v := .ref a_o_cellAt) (C := RX7) (T := TX7) (N := 42) hx hb hts hi7 hown hK hP 0 rfl rfl 14 (by decide) hq3 (fun _ h9 => h9) rfl dX7_begins_13 ?_
  refine lv_iconst (v := 0) hx hb dX7_begins_16 (by decide) ?_
  refine lv_aload_n hx hb dX7_begins_17 rfl (lv_at hl 0 rfl) ?_
  refine va_get (D := (dC, dI)) (ci := 7) (v := .ref a_o_sets) (C := RX7) (T := TX7) (N := 42) hx hb hts hi7 hown hK hP 0 rfl rfl 0 (by decide) hq4 (fun _ h9 => h9) rfl dX7_begins_18 ?_
  refine lv_iconst (v := 1) hx hb dX7_begins_21 (by decide) ?_
  refine va_iald (i := 1) hx hb hK hP 1 0 rfl rfl (show ¬ _ by decide) dX7_begins_22 ?_
  refine lv_topi (fun x_1 ex_1 => ?_)
  replace hw := okN ex_1 hw
  clear ex_1
  refine va_iast (i := 0) (x := x_1) hx hb hK hP hD hS 3 0 rfl rfl (show ¬ _ by decide) dX7_begins_23 (fun H locs hP hD hS => ?_)
  have hP : va_P (dC, dI) vwCl (W_X7_begins cyI cyJ cyO h_o a_o_sets a_o_ringFar a_o_ringTone a_o_currents a_o_warmths a_o_depths a_o_tape a_o_readFar a_o_readTone a_o_readSea a_o_code a_o_cellAt a_o_courseAt a_o_paceAt a_o_turnsAt a_o_slowAt a_o_fuelAt a_o_ringAt a_o_pieceParts a_o_dragCell a_o_dragBy a_o_sums a_o_shares a_o_keptFar a_o_image a_o_lanes a_o_sizes a_o_items a_o_movedItems o_taped o_at o_wrong 0 o_noRings o_noTones o_noFuel o_pieces o_drags o_all o_noPieces o_noDrags o_kept o_sets (upd o_code 0 (-1)) (upd o_cellAt 0 x_1) o_turnsAt o_slowAt o_fuelAt o_ringAt) H := hP
  have hD : va_D A (W_X7_begins cyI cyJ cyO h_o a_o_sets a_o_ringFar a_o_ringTone a_o_currents a_o_warmths a_o_depths a_o_tape a_o_readFar a_o_readTone a_o_readSea a_o_code a_o_cellAt a_o_courseAt a_o_paceAt a_o_turnsAt a_o_slowAt a_o_fuelAt a_o_ringAt a_o_pieceParts a_o_dragCell a_o_dragBy a_o_sums a_o_shares a_o_keptFar a_o_image a_o_lanes a_o_sizes a_o_items a_o_movedItems o_taped o_at o_wrong 0 o_noRings o_noTones o_noFuel o_pieces o_drags o_all o_noPieces o_noDrags o_kept o_sets (upd o_code 0 (-1)) (upd o_cellAt 0 x_1) o_turnsAt o_slowAt o_fuelAt o_ringAt) := hD
  refine lv_aload_n hx hb dX7_begins_24 rfl (lv_at hl 0 rfl) ?_
  refine va_get (D := (dC, dI)) (ci := 7) (v := .ref a_o_turnsAt) (C := RX7) (T := TX7) (N := 42) hx hb hts hi7 hown hK hP 0 rfl rfl 17 (by decide) hq5 (fun _ h9 => h9) rfl dX7_begins_25 ?_
  refine lv_iconst (v := 0) hx hb dX7_begins_28 (by decide) ?_
  refine lv_iconst (v := 0) hx hb dX7_begins_29 (by decide) ?_
  refine va_iast (i := 0) (x := 0) hx hb hK hP hD hS 4 0 rfl rfl (show ¬ _ by decide) dX7_begins_30 (fun H locs hP hD hS => ?_)
  have hP : va_P (dC, dI) vwCl (W_X7_begins cyI cyJ cyO h_o a_o_sets a_o_ringFar a_o_ringTone a_o_currents a_o_warmths a_o_depths a_o_tape a_o_readFar a_o_readTone a_o_readSea a_o_code a_o_cellAt a_o_courseAt a_o_paceAt a_o_turnsAt a_o_slowAt a_o_fuelAt a_o_ringAt a_o_pieceParts a_o_dragCell a_o_dragBy a_o_sums a_o_shares a_o_keptFar a_o_image a_o_lanes a_o_sizes a_o_items a_o_movedItems o_taped o_at o_wrong 0 o_noRings o_noTones o_noFuel o_pieces o_drags o_all o_noPieces o_noDrags o_kept o_sets (upd o_code 0 (-1)) (upd o_cellAt 0 x_1) (upd o_turnsAt 0 0) o_slowAt o_fuelAt o_ringAt) H := hP
  have hD : va_D A (W_X7_begins cyI cyJ cyO h_o a_o_sets a_o_ringFar a_o_ringTone a_o_currents a_o_warmths a_o_depths a_o_tape a_o_readFar a_o_readTone a_o_readSea a_o_code a_o_cellAt a_o_courseAt a_o_paceAt a_o_turnsAt a_o_slowAt a_o_fuelAt a_o_ringAt a_o_pieceParts a_o_dragCell a_o_dragBy a_o_sums a_o_shares a_o_keptFar a_o_image a_o_lanes a_o_sizes a_o_items a_o_movedItems o_taped o_at o_wrong 0 o_noRings o_noTones o_noFuel o_pieces o_drags o_all o_noPieces o_noDrags o_kept o_sets (upd o_code 0 (-1)) (upd o_cellAt 0 x_1) (upd o_turnsAt 0 0) o_slowAt o_fuelAt o_ringAt) := hD
  refine lv_aload_n hx hb dX7_begins_31 rfl (lv_at hl 0 rfl) ?_
  refine va_get (D := (dC, dI)) (ci := 7) (v := .ref a_o_slowAt) (C := RX7) (T := TX7) (N := 42) hx hb hts hi7 hown hK hP 0 rfl rfl 18 (by decide) hq6 (fun _ h9 => h9) rfl dX7_begins_32 ?_
  refine lv_iconst (v := 0) hx hb dX7_begins_35 (by decide) ?_
  refine lv_iconst (v := 0) hx hb dX7_begins_36 (by decide) ?_
  refine va_iast (i := 0) (x := 0) hx hb hK hP hD hS 5 0 rfl rfl (show ¬ _ by decide) dX7_begins_37 (fun H locs hP hD hS => ?_)
  have hP : va_P (dC, dI) vwCl (W_X7_begins cyI cyJ cyO h_o a_o_sets a_o_ringFar a_o_ringTone a_o_currents a_o_warmths a_o_depths a_o_tape a_o_readFar a_o_readTone a_o_readSea a_o_code a_o_cellAt a_o_courseAt a_o_paceAt a_o_turnsAt a_o_slowAt a_o_fuelAt a_o_ringAt a_o_pieceParts a_o_dragCell a_o_dragBy a_o_sums a_o_shares a_o_keptFar a_o_image a_o_lanes a_o_sizes a_o_items a_o_movedItems o_taped o_at o_wrong 0 o_noRings o_noTones o_noFuel o_pieces o_drags o_all o_noPieces o_noDrags o_kept o_sets (upd o_code 0 (-1)) (upd o_cellAt 0 x_1) (upd o_turnsAt 0 0) (upd o_slowAt 0 0) o_fuelAt o_ringAt) H := hP
  have hD : va_D A (W_X7_begins cyI cyJ cyO h_o a_o_sets a_o_ringFar a_o_ringTone a_o_currents a_o_warmths a_o_depths a_o_tape a_o_readFar a_o_readTone a_o_readSea a_o_code a_o_cellAt a_o_courseAt a_o_paceAt a_o_turnsAt a_o_slowAt a_o_fuelAt a_o_ringAt a_o_pieceParts a_o_dragCell a_o_dragBy a_o_sums a_o_shares a_o_keptFar a_o_image a_o_lanes a_o_sizes a_o_items a_o_movedItems o_taped o_at o_wrong 0 o_noRings o_noTones o_noFuel o_pieces o_drags o_all o_noPieces o_noDrags o_kept o_sets (upd o_code 0 (-1)) (upd o_cellAt 0 x_1) (upd o_turnsAt 0 0) (upd o_slowAt 0 0) o_fuelAt o_ringAt) := hD
  refine lv_aload_n hx hb dX7_begins_38 rfl (lv_at hl 0 rfl) ?_
  refine va_get (D := (dC, dI)) (ci := 7) (v := .ref a_o_fuelAt) (C := RX7) (T := TX7) (N := 42) hx hb hts hi7 hown hK hP 0 rfl rfl 19 (by decide) hq7 (fun _ h9 => h9) rfl dX7_begins_39 ?_
  refine lv_iconst (v := 0) hx hb dX7_begins_42 (by decide) ?_
  refine lv_iconst (v := 0) hx hb dX7_begins_43 (by decide) ?_
  refine va_iast (i := 0) (x := 0) hx hb hK hP hD hS 6 0 rfl rfl (show ¬ _ by decide) dX7_begins_44 (fun H locs hP hD hS => ?_)
  have hP : va_P (dC, dI) vwCl (W_X7_begins cyI cyJ cyO h_o a_o_sets a_o_ringFar a_o_ringTone a_o_currents a_o_warmths a_o_depths a_o_tape a_o_readFar a_o_readTone a_o_readSea a_o_code a_o_cellAt a_o_courseAt a_o_paceAt a_o_turnsAt a_o_slowAt a_o_fuelAt a_o_ringAt a_o_pieceParts a_o_dragCell a_o_dragBy a_o_sums a_o_shares a_o_keptFar a_o_image a_o_lanes a_o_sizes a_o_items a_o_movedItems o_taped o_at o_wrong 0 o_noRings o_noTones o_noFuel o_pieces o_drags o_all o_noPieces o_noDrags o_kept o_sets (upd o_code 0 (-1)) (upd o_cellAt 0 x_1) (upd o_turnsAt 0 0) (upd o_slowAt 0 0) (upd o_fuelAt 0 0) o_ringAt) H := hP
  have hD : va_D A (W_X7_begins cyI cyJ cyO h_o a_o_sets a_o_ringFar a_o_ringTone a_o_currents a_o_warmths a_o_depths a_o_tape a_o_readFar a_o_readTone a_o_readSea a_o_code a_o_cellAt a_o_courseAt a_o_paceAt a_o_turnsAt a_o_slowAt a_o_fuelAt a_o_ringAt a_o_pieceParts a_o_dragCell a_o_dragBy a_o_sums a_o_shares a_o_keptFar a_o_image a_o_lanes a_o_sizes a_o_items a_o_movedItems o_taped o_at o_wrong 0 o_noRings o_noTones o_noFuel o_pieces o_drags o_all o_noPieces o_noDrags o_kept o_sets (upd o_code 0 (-1)) (upd o_cellAt 0 x_1) (upd o_turnsAt 0 0) (upd o_slowAt 0 0) (upd o_fuelAt 0 0) o_ringAt) := hD
  refine lv_aload_n hx hb dX7_begins_45 rfl (lv_at hl 0 rfl) ?_
  refine va_get (D := (dC, dI)) (ci := 7) (v := .ref a_o_ringAt) (C := RX7) (T := TX7) (N := 42) hx hb hts hi7 hown hK hP 0 rfl rfl 20 (by decide) hq8 (fun _ h9 => h9) rfl dX7_begins_46 ?_
  refine lv_iconst (v := 0) hx hb dX7_begins_49 (by decide) ?_
  refine lv_iconst (v := 1) hx hb dX7_begins_50 (by decide) ?_
  refine va_iast (i := 0) (x := 1) hx hb hK hP hD hS 7 0 rfl rfl (show ¬ _ by decide) dX7_begins_51 (fun H locs hP hD hS => ?_)
  have hP : va_P (dC, dI) vwCl (W_X7_begins cyI cyJ cyO h_o a_o_sets a_o_ringFar a_o_ringTone a_o_currents a_o_warmths a_o_depths a_o_tape a_o_readFar a_o_readTone a_o_readSea a_o_code a_o_cellAt a_o_courseAt a_o_paceAt a_o_turnsAt a_o_slowAt a_o_fuelAt a_o_ringAt a_o_pieceParts a_o_dragCell a_o_dragBy a_o_sums a_o_shares a_o_keptFar a_o_image a_o_lanes a_o_sizes a_o_items a_o_movedItems o_taped o_at o_wrong 0 o_noRings o_noTones o_noFuel o_pieces o_drags o_all o_noPieces o_noDrags o_kept o_sets (upd o_code 0 (-1)) (upd o_cellAt 0 x_1) (upd o_turnsAt 0 0) (upd o_slowAt 0 0) (upd o_fuelAt 0 0) (upd o_ringAt 0 1)) H := hP
  have hD : va_D A (W_X7_begins cyI cyJ cyO h_o a_o_sets a_o_ringFar a_o_ringTone a_o_currents a_o_warmths a_o_depths a_o_tape a_o_readFar a_o_readTone a_o_readSea a_o_code a_o_cellAt a_o_courseAt a_o_paceAt a_o_turnsAt a_o_slowAt a_o_fuelAt a_o_ringAt a_o_pieceParts a_o_dragCell a_o_dragBy a_o_sums a_o_shares a_o_keptFar a_o_image a_o_lanes a_o_sizes a_o_items a_o_movedItems o_taped o_at o_wrong 0 o_noRings o_noTones o_noFuel o_pieces o_drags o_all o_noPieces o_noDrags o_kept o_sets (upd o_code 0 (-1)) (upd o_cellAt 0 x_1) (upd o_turnsAt 0 0) (upd o_slowAt 0 0) (upd o_fuelAt 0 0) (upd o_ringAt 0 1)) := hD
  rw [hQ]
  exact W.vret hx hb hr (fun t ht hW => ⟨⟨(0, upd o_code 0 (-1), upd o_cellAt 0 x_1, upd o_turnsAt 0 0, upd o_slowAt 0 0, upd o_fuelAt 0 0, upd o_ringAt 0 1), rfl, okS hw, by rw [ht]; exact hP, va_K.moved hW.alike hK, hD⟩, hS.F ht⟩) hS.2.2 dX7_begins_52
/-! ===== X7_ringed ===== -/
theorem dX7_ringed_0 : decode cX7_ringed 0 = .ok (.aload_n 0, 1) := by decide +kernel
theorem dX7_ringed_1 : decode cX7_ringed 1 = .ok (.getfield 167, 3) := by decide +kernel
theorem dX7_ringed_4 : decode cX7_ringed 4 = .ok (.iload_n 1, 1) := by decide +kernel
theorem dX7_ringed_5 : decode cX7_ringed 5 = .ok (.ishr, 1) := by decide +kernel
theorem dX7_ringed_6 : decode cX7_ringed 6 = .ok (.iconst 1, 1) := by decide +kernel
theorem dX7_ringed_7 : decode cX7_ringed 7 = .ok (.iand, 1) := by decide +kernel
theorem dX7_ringed_8 : decode cX7_ringed 8 = .ok (.iconst 1, 1) := by decide +kernel
theorem dX7_ringed_9 : decode cX7_ringed 9 = .ok (.if_icmp .ne 5, 3) := by decide +kernel
theorem dX7_ringed_12 : decode cX7_ringed 12 = .ok (.iconst 1, 1) := by decide +kernel
theorem dX7_ringed_13 : decode cX7_ringed 13 = .ok (.ireturn, 1) := by decide +kernel
theorem dX7_ringed_14 : decode cX7_ringed 14 = .ok (.aload_n 0, 1) := by decide +kernel
theorem dX7_ringed_15 : decode cX7_ringed 15 = .ok (.aload_n 0, 1) := by decide +kernel
theorem dX7_ringed_16 : decode cX7_ringed 16 = .ok (.getfield 43, 3) := by decide +kernel
theorem dX7_ringed_19 : decode cX7_ringed 19 = .ok (.iload_n 1, 1) := by decide +kernel
theorem dX7_ringed_20 : decode cX7_ringed 20 = .ok (.iaload, 1) := by decide +kernel
theorem dX7_ringed_21 : decode cX7_ringed 21 = .ok (.invokevirtual 119, 3) := by decide +kernel
theorem dX7_ringed_24 : decode cX7_ringed 24 = .ok (.istore_n 2, 1) := by decide +kernel
theorem dX7_ringed_25 : decode cX7_ringed 25 = .ok (.aload_n 0, 1) := by decide +kernel
theorem dX7_ringed_26 : decode cX7_ringed 26 = .ok (.aload_n 0, 1) := by decide +kernel
theorem dX7_ringed_27 : decode cX7_ringed 27 = .ok (.getfield 43, 3) := by decide +kernel
theorem dX7_ringed_30 : decode cX7_ringed 30 = .ok (.iload_n 1, 1) := by decide +kernel
theorem dX7_ringed_31 : decode cX7_ringed 31 = .ok (.iconst 1, 1) := by decide +kernel
theorem dX7_ringed_32 : decode cX7_ringed 32 = .ok (.isub, 1) := by decide +kernel
theorem dX7_ringed_33 : decode cX7_ringed 33 = .ok (.iaload, 1) := by decide +kernel
theorem dX7_ringed_34 : decode cX7_ringed 34 = .ok (.invokevirtual 119, 3) := by decide +kernel
theorem dX7_ringed_37 : decode cX7_ringed 37 = .ok (.istore_n 3, 1) := by decide +kernel
theorem dX7_ringed_38 : decode cX7_ringed 38 = .ok (.aload_n 0, 1) := by decide +kernel
theorem dX7_ringed_39 : decode cX7_ringed 39 = .ok (.getfield 170, 3) := by decide +kernel
theorem dX7_ringed_42 : decode cX7_ringed 42 = .ok (.ifCond .eq 7, 3) := by decide +kernel
theorem dX7_ringed_45 : decode cX7_ringed 45 = .ok (.iconst 0, 1) := by decide +kernel
theorem dX7_ringed_46 : decode cX7_ringed 46 = .ok (.goto 9, 3) := by decide +kernel
theorem dX7_ringed_49 : decode cX7_ringed 49 = .ok (.aload_n 0, 1) := by decide +kernel
theorem dX7_ringed_50 : decode cX7_ringed 50 = .ok (.getfield 16, 3) := by decide +kernel
theorem dX7_ringed_53 : decode cX7_ringed 53 = .ok (.iload_n 1, 1) := by decide +kernel
theorem dX7_ringed_54 : decode cX7_ringed 54 = .ok (.iaload, 1) := by decide +kernel
theorem dX7_ringed_55 : decode cX7_ringed 55 = .ok (.istore 4, 2) := by decide +kernel
theorem dX7_ringed_57 : decode cX7_ringed 57 = .ok (.iload 4, 2) := by decide +kernel
theorem dX7_ringed_59 : decode cX7_ringed 59 = .ok (.iconst 1, 1) := by decide +kernel
theorem dX7_ringed_60 : decode cX7_ringed 60 = .ok (.if_icmp .ne 8, 3) := by decide +kernel
theorem dX7_ringed_63 : decode cX7_ringed 63 = .ok (.iload_n 2, 1) := by decide +kernel
theorem dX7_ringed_64 : decode cX7_ringed 64 = .ok (.iload_n 3, 1) := by decide +kernel
theorem dX7_ringed_65 : decode cX7_ringed 65 = .ok (.if_icmp .ge 14, 3) := by decide +kernel
theorem dX7_ringed_68 : decode cX7_ringed 68 = .ok (.iload 4, 2) := by decide +kernel
theorem dX7_ringed_70 : decode cX7_ringed 70 = .ok (.iconst 2, 1) := by decide +kernel
theorem dX7_ringed_71 : decode cX7_ringed 71 = .ok (.if_icmp .ne 10, 3) := by decide +kernel
theorem dX7_ringed_74 : decode cX7_ringed 74 = .ok (.iload_n 2, 1) := by decide +kernel
theorem dX7_ringed_75 : decode cX7_ringed 75 = .ok (.iload_n 3, 1) := by decide +kernel
theorem dX7_ringed_76 : decode cX7_ringed 76 = .ok (.if_icmp .gt 5, 3) := by decide +kernel
theorem dX7_ringed_79 : decode cX7_ringed 79 = .ok (.iconst 0, 1) := by decide +kernel
theorem dX7_ringed_80 : decode cX7_ringed 80 = .ok (.ireturn, 1) := by decide +kernel
theorem dX7_ringed_81 : decode cX7_ringed 81 = .ok (.aload_n 0, 1) := by decide +kernel
theorem dX7_ringed_82 : decode cX7_ringed 82 = .ok (.getfield 13, 3) := by decide +kernel
theorem dX7_ringed_85 : decode cX7_ringed 85 = .ok (.iload_n 1, 1) := by decide +kernel
theorem dX7_ringed_86 : decode cX7_ringed 86 = .ok (.iaload, 1) := by decide +kernel
theorem dX7_ringed_87 : decode cX7_ringed 87 = .ok (.ifCond .ge 7, 3) := by decide +kernel
theorem dX7_ringed_90 : decode cX7_ringed 90 = .ok (.iconst (-1), 1) := by decide +kernel
theorem dX7_ringed_91 : decode cX7_ringed 91 = .ok (.goto 32, 3) := by decide +kernel
theorem dX7_ringed_94 : decode cX7_ringed 94 = .ok (.iload_n 2, 1) := by decide +kernel
theorem dX7_ringed_95 : decode cX7_ringed 95 = .ok (.aload_n 0, 1) := by decide +kernel
theorem dX7_ringed_96 : decode cX7_ringed 96 = .ok (.getfield 13, 3) := by decide +kernel
theorem dX7_ringed_99 : decode cX7_ringed 99 = .ok (.iload_n 1, 1) := by decide +kernel
theorem dX7_ringed_100 : decode cX7_ringed 100 = .ok (.iaload, 1) := by decide +kernel
theorem dX7_ringed_101 : decode cX7_ringed 101 = .ok (.if_icmp .ge 14, 3) := by decide +kernel
theorem dX7_ringed_104 : decode cX7_ringed 104 = .ok (.aload_n 0, 1) := by decide +kernel
theorem dX7_ringed_105 : decode cX7_ringed 105 = .ok (.getfield 13, 3) := by decide +kernel
theorem dX7_ringed_108 : decode cX7_ringed 108 = .ok (.iload_n 1, 1) := by decide +kernel
theorem dX7_ringed_109 : decode cX7_ringed 109 = .ok (.iaload, 1) := by decide +kernel
theorem dX7_ringed_110 : decode cX7_ringed 110 = .ok (.iload_n 2, 1) := by decide +kernel
theorem dX7_ringed_111 : decode cX7_ringed 111 = .ok (.isub, 1) := by decide +kernel
theorem dX7_ringed_112 : decode cX7_ringed 112 = .ok (.goto 11, 3) := by decide +kernel
theorem dX7_ringed_115 : decode cX7_ringed 115 = .ok (.iload_n 2, 1) := by decide +kernel
theorem dX7_ringed_116 : decode cX7_ringed 116 = .ok (.aload_n 0, 1) := by decide +kernel
theorem dX7_ringed_117 : decode cX7_ringed 117 = .ok (.getfield 13, 3) := by decide +kernel
theorem dX7_ringed_120 : decode cX7_ringed 120 = .ok (.iload_n 1, 1) := by decide +kernel
theorem dX7_ringed_121 : decode cX7_ringed 121 = .ok (.iaload, 1) := by decide +kernel
theorem dX7_ringed_122 : decode cX7_ringed 122 = .ok (.isub, 1) := by decide +kernel
theorem dX7_ringed_123 : decode cX7_ringed 123 = .ok (.istore 5, 2) := by decide +kernel
theorem dX7_ringed_125 : decode cX7_ringed 125 = .ok (.iload 5, 2) := by decide +kernel
theorem dX7_ringed_127 : decode cX7_ringed 127 = .ok (.ifCond .ge 7, 3) := by decide +kernel
theorem dX7_ringed_130 : decode cX7_ringed 130 = .ok (.iconst 1, 1) := by decide +kernel
theorem dX7_ringed_131 : decode cX7_ringed 131 = .ok (.goto 23, 3) := by decide +kernel
theorem dX7_ringed_134 : decode cX7_ringed 134 = .ok (.iload 5, 2) := by decide +kernel
theorem dX7_ringed_136 : decode cX7_ringed 136 = .ok (.ifCond .ne 7, 3) := by decide +kernel
theorem dX7_ringed_139 : decode cX7_ringed 139 = .ok (.iconst 2, 1) := by decide +kernel
theorem dX7_ringed_140 : decode cX7_ringed 140 = .ok (.goto 14, 3) := by decide +kernel
theorem dX7_ringed_143 : decode cX7_ringed 143 = .ok (.iload 5, 2) := by decide +kernel
theorem dX7_ringed_145 : decode cX7_ringed 145 = .ok (.iconst 1, 1) := by decide +kernel
theorem dX7_ringed_146 : decode cX7_ringed 146 = .ok (.if_icmp .ne 7, 3) := by decide +kernel
theorem dX7_ringed_149 : decode cX7_ringed 149 = .ok (.iconst 1, 1) := by decide +kernel
theorem dX7_ringed_150 : decode cX7_ringed 150 = .ok (.goto 4, 3) := by decide +kernel
theorem dX7_ringed_153 : decode cX7_ringed 153 = .ok (.iconst 0, 1) := by decide +kernel
theorem dX7_ringed_154 : decode cX7_ringed 154 = .ok (.ireturn, 1) := by decide +kernel
abbrev W_X7_ringed (cyI cyJ cyO : ClassId) (h_o a_o_sets a_o_ringFar a_o_ringTone a_o_currents a_o_warmths a_o_depths a_o_tape a_o_readFar a_o_readTone a_o_readSea a_o_code a_o_cellAt a_o_courseAt a_o_paceAt a_o_turnsAt a_o_slowAt a_o_fuelAt a_o_ringAt a_o_pieceParts a_o_dragCell a_o_dragBy a_o_sums a_o_shares a_o_keptFar a_o_image a_o_lanes a_o_sizes a_o_items a_o_movedItems : Nat) (o_taped : Int32) (o_at : Int32) (o_wrong : Int32) (o_level : Int32) (o_noRings : Int32) (o_noTones : Int32) (o_noFuel : Int32) (o_pieces : Int32) (o_drags : Int32) (o_all : Int64) (o_noPieces : Int32) (o_noDrags : Int32) (o_kept : Int32) (o_sets : Nat → Int32) (o_ringFar : Nat → Int32) (o_ringTone : Nat → Int32) (o_cellAt : Nat → Int32) : va_W := [(h_o, .inr (7, [.ref a_o_sets, .ref a_o_ringFar, .ref a_o_ringTone, .ref a_o_currents, .ref a_o_warmths, .ref a_o_depths, .ref a_o_tape, .int o_taped, .int o_at, .int o_wrong, .ref a_o_readFar, .ref a_o_readTone, .ref a_o_readSea, .ref a_o_code, .ref a_o_cellAt, .ref a_o_courseAt, .ref a_o_paceAt, .ref a_o_turnsAt, .ref a_o_slowAt, .ref a_o_fuelAt, .ref a_o_ringAt, .int o_level, .int o_noRings, .int o_noTones, .int o_noFuel, .int o_pieces, .ref a_o_pieceParts, .int o_drags, .ref a_o_dragCell, .ref a_o_dragBy, .ref a_o_sums, .long o_all, .int o_noPieces, .int o_noDrags, .ref a_o_shares, .ref a_o_keptFar, .ref a_o_image, .int o_kept, .ref a_o_lanes, .ref a_o_sizes, .ref a_o_items, .ref a_o_movedItems])), (a_o_sets, .inl (cyI, 8, .inl o_sets)), (a_o_ringFar, .inl (cyI, 7, .inl o_ringFar)), (a_o_ringTone, .inl (cyI, 7, .inl o_ringTone)), (a_o_cellAt, .inl (cyI, 7, .inl o_cellAt))]
def f_X7_ringed_B123 (y0 : Int32) (o_noRings : Int32) (o_noTones : Int32) (o_sets : Nat → Int32) (o_ringFar : Nat → Int32) (o_ringTone : Nat → Int32) (o_cellAt : Nat → Int32) : Option (Int32) :=
  if 0 ≤ y0 then
    if y0 = 0 then
      some 2
    else
      if y0 = 1 then
        some 1
      else
        some 0
  else
    some 1
def f_X7_ringed_B81 (v1 : Int32) (v2 : Int32) (o_noRings : Int32) (o_noTones : Int32) (o_sets : Nat → Int32) (o_ringFar : Nat → Int32) (o_ringTone : Nat → Int32) (o_cellAt : Nat → Int32) : Option (Int32) :=
  chk (¬ (v1 < 0 ∨ 7 ≤ v1.toNatClampNeg)) <|
  if 0 ≤ (o_ringFar v1.toNatClampNeg) then
    chk (¬ (v1 < 0 ∨ 7 ≤ v1.toNatClampNeg)) <|
    if (o_ringFar v1.toNatClampNeg) ≤ v2 then
      chk (¬ (v1 < 0 ∨ 7 ≤ v1.toNatClampNeg)) <|
      f_X7_ringed_B123 (v2 - (o_ringFar v1.toNatClampNeg)) o_noRings o_noTones o_sets o_ringFar o_ringTone o_cellAt
    else
      chk (¬ (v1 < 0 ∨ 7 ≤ v1.toNatClampNeg)) <|
      f_X7_ringed_B123 ((o_ringFar v1.toNatClampNeg) - v2) o_noRings o_noTones o_sets o_ringFar o_ringTone o_cellAt
  else
    f_X7_ringed_B123 (-1) o_noRings o_noTones o_sets o_ringFar o_ringTone o_cellAt
def f_X7_ringed_B68 (v1 : Int32) (v2 : Int32) (v3 : Int32) (v4 : Int32) (o_noRings : Int32) (o_noTones : Int32) (o_sets : Nat → Int32) (o_ringFar : Nat → Int32) (o_ringTone : Nat → Int32) (o_cellAt : Nat → Int32) : Option (Int32) :=
  if v4 = 2 then
    if v3 < v2 then
      f_X7_ringed_B81 v1 v2 o_noRings o_noTones o_sets o_ringFar o_ringTone o_cellAt
    else
      some 0
  else
    f_X7_ringed_B81 v1 v2 o_noRings o_noTones o_sets o_ringFar o_ringTone o_cellAt
def f_X7_ringed_B55 (v1 : Int32) (v2 : Int32) (v3 : Int32) (y0 : Int32) (o_noRings : Int32) (o_noTones : Int32) (o_sets : Nat → Int32) (o_ringFar : Nat → Int32) (o_ringTone : Nat → Int32) (o_cellAt : Nat → Int32) : Option (Int32) :=
  if y0 = 1 then
    if v3 ≤ v2 then
      some 0
    else
      f_X7_ringed_B68 v1 v2 v3 y0 o_noRings o_noTones o_sets o_ringFar o_ringTone o_cellAt
  else
    f_X7_ringed_B68 v1 v2 v3 y0 o_noRings o_noTones o_sets o_ringFar o_ringTone o_cellAt
def f_X7_ringed (x1 : Int32) (o_noRings : Int32) (o_noTones : Int32) (o_sets : Nat → Int32) (o_ringFar : Nat → Int32) (o_ringTone : Nat → Int32) (o_cellAt : Nat → Int32) : Option (Int32) :=
  if ((o_noRings >>> (x1 &&& 31)) &&& 1) = 1 then
    some 1
  else
    chk (¬ (x1 < 0 ∨ 7 ≤ x1.toNatClampNeg)) <|
    bd1 (f_X7_away (o_cellAt x1.toNatClampNeg) o_sets) fun r_1 =>
    chk (¬ (x1 - 1 < 0 ∨ 7 ≤ (x1 - 1).toNatClampNeg)) <|
    bd1 (f_X7_away (o_cellAt (x1 - 1).toNatClampNeg) o_sets) fun r_2 =>
    if o_noTones = 0 then
      chk (¬ (x1 < 0 ∨ 7 ≤ x1.toNatClampNeg)) <|
      f_X7_ringed_B55 x1 r_1 r_2 (o_ringTone x1.toNatClampNeg) o_noRings o_noTones o_sets o_ringFar o_ringTone o_cellAt
    else
      f_X7_ringed_B55 x1 r_1 r_2 0 o_noRings o_noTones o_sets o_ringFar o_ringTone o_cellAt
abbrev rm_X7_ringed : Room := { frames := 1, cells := 0, slots := 0, locals := 25 }
set_option maxRecDepth 100000 in
set_option maxHeartbeats 4000000 in
theorem c_X7_ringed (l : Launch) (dC : Nat → ClassId) (dI : Nat → Nat → Nat) (cyI cyJ cyO : ClassId) (sz : Nat) (h_o a_o_sets a_o_ringFar a_o_ringTone a_o_currents a_o_warmths a_o_depths a_o_tape a_o_readFar a_o_readTone a_o_readSea a_o_code a_o_cellAt a_o_courseAt a_o_paceAt a_o_turnsAt a_o_slowAt a_o_fuelAt a_o_ringAt a_o_pieceParts a_o_dragCell a_o_dragBy a_o_sums a_o_shares a_o_keptFar a_o_image a_o_lanes a_o_sizes a_o_items a_o_movedItems : Nat) (o_taped : Int32) (o_at : Int32) (o_wrong : Int32) (o_level : Int32) (o_noRings : Int32) (o_noTones : Int32) (o_noFuel : Int32) (o_pieces : Int32) (o_drags : Int32) (o_all : Int64) (o_noPieces : Int32) (o_noDrags : Int32) (o_kept : Int32) (o_sets : Nat → Int32) (o_ringFar : Nat → Int32) (o_ringTone : Nat → Int32) (o_cellAt : Nat → Int32) (x1 : Int32) (post : Int32 → Prop) (hf : okP (f_X7_ringed x1 o_noRings o_noTones o_sets o_ringFar o_ringTone o_cellAt) post) : Ci l (dC, dI) (tyL cyI cyJ cyO) yX7_ringed wsX7_ringed rm_X7_ringed [.ref h_o, .int x1] sz (W_X7_ringed cyI cyJ cyO h_o a_o_sets a_o_ringFar a_o_ringTone a_o_currents a_o_warmths a_o_depths a_o_tape a_o_readFar a_o_readTone a_o_readSea a_o_code a_o_cellAt a_o_courseAt a_o_paceAt a_o_turnsAt a_o_slowAt a_o_fuelAt a_o_ringAt a_o_pieceParts a_o_dragCell a_o_dragBy a_o_sums a_o_shares a_o_keptFar a_o_image a_o_lanes a_o_sizes a_o_items a_o_movedItems o_taped o_at o_wrong o_level o_noRings o_noTones o_noFuel o_pieces o_drags o_all o_noPieces o_noDrags o_kept o_sets o_ringFar o_ringTone o_cellAt) zN (fun r (_ : Unit) => post r) (fun _ => (W_X7_ringed cyI cyJ cyO h_o a_o_sets a_o_ringFar a_o_ringTone a_o_currents a_o_warmths a_o_depths a_o_tape a_o_readFar a_o_readTone a_o_readSea a_o_code a_o_cellAt a_o_courseAt a_o_paceAt a_o_turnsAt a_o_slowAt a_o_fuelAt a_o_ringAt a_o_pieceParts a_o_dragCell a_o_dragBy a_o_sums a_o_shares a_o_keptFar a_o_image a_o_lanes a_o_sizes a_o_items a_o_movedItems o_taped o_at o_wrong o_level o_noRings o_noTones o_noFuel o_pieces o_drags o_all o_noPieces o_noDrags o_kept o_sets o_ringFar o_ringTone o_cellAt)) := by
  refine Met.ofW (cc := cX7_ringed) (maxL := 6) (ret := (some .int)) (by decide) rfl ?_
  intro p e s m args below meth c s₁ B hml hv
  obtain ⟨rfl, hsz, hP, hK, hD0, hZ⟩ := hv
  have hx := B.exec
  have hb := B.bytes
  have hr := B.returns
  have hts := atoms_spec (ws := wsX7_ringed) B.pre
  have hown : s.vm.findClass RX7 = some m.cls := findClass_of_methodNamed B.named
  have hlocks := B.notSynchronized
  subst hsz
  have hD := hD0.self (sz := s.heap.size)
  generalize hAe : va_A (W_X7_ringed cyI cyJ cyO h_o a_o_sets a_o_ringFar a_o_ringTone a_o_currents a_o_warmths a_o_depths a_o_tape a_o_readFar a_o_readTone a_o_readSea a_o_code a_o_cellAt a_o_courseAt a_o_paceAt a_o_turnsAt a_o_slowAt a_o_fuelAt a_o_ringAt a_o_pieceParts a_o_dragCell a_o_dragBy a_o_sums a_o_shares a_o_keptFar a_o_image a_o_lanes a_o_sizes a_o_items a_o_movedItems o_taped o_at o_wrong o_level o_noRings o_noTones o_noFuel o_pieces o_drags o_all o_noPieces o_noDrags o_kept o_sets o_ringFar o_ringTone o_cellAt) s.heap.size = A at hD hZ ⊢
  have hA : ∀ q : Nat, s.heap.size ≤ q → A q := fun q h => by rw [← hAe]; exact Or.inr h
  clear hAe hD0
  have hS : va_S A s.heap s.heap [] := va_S.rf
  have hl := lv_entry ([.ref h_o, .int x1]) (n := 6) (Nat.le_of_ble_eq_true rfl)
  rw [lg_entry_eq]
  generalize (lg_sl ([.ref h_o, .int x1]) ++ List.replicate (6 - (lg_sl ([.ref h_o, .int x1])).length) Slot.unset).toArray = ls at hl ⊢
  have hl : lv_has ls 6 [(0, .ref h_o), (1, .int x1)] := hl
  refine kW (fun Q hQ => ?_)
  have hq0 := hts _ (List.mem_cons_of_mem _ q_707)
  have hi7 : ∀ w ∈ u_ws RX7 TX7 42, w ∈ wsX7_ringed := fun w h => List.mem_cons_of_mem _ (inX7 w h)
  have hq2 := hts _ (List.mem_cons_of_mem _ q_728)
  have hq3 := hts _ (List.mem_cons_of_mem _ q_720)
  have hq4 := hts _ (List.mem_cons_of_mem _ q_729)
  have hq5 := hts _ (List.mem_cons_of_mem _ q_708)
  have hw := hf
  have w123 : ∀ (y0 : Int32) (H : Heap) (locs : List Loc), va_P (dC, dI) vwCl (W_X7_ringed cyI cyJ cyO h_o a_o_sets a_o_ringFar a_o_ringTone a_o_currents a_o_warmths a_o_depths a_o_tape a_o_readFar a_o_readTone a_o_readSea a_o_code a_o_cellAt a_o_courseAt a_o_paceAt a_o_turnsAt a_o_slowAt a_o_fuelAt a_o_ringAt a_o_pieceParts a_o_dragCell a_o_dragBy a_o_sums a_o_shares a_o_keptFar a_o_image a_o_lanes a_o_sizes a_o_items a_o_movedItems o_taped o_at o_wrong o_level o_noRings o_noTones o_noFuel o_pieces o_drags o_all o_noPieces o_noDrags o_kept o_sets o_ringFar o_ringTone o_cellAt) H → va_D A (W_X7_ringed cyI cyJ cyO h_o a_o_sets a_o_ringFar a_o_ringTone a_o_currents a_o_warmths a_o_depths a_o_tape a_o_readFar a_o_readTone a_o_readSea a_o_code a_o_cellAt a_o_courseAt a_o_paceAt a_o_turnsAt a_o_slowAt a_o_fuelAt a_o_ringAt a_o_pieceParts a_o_dragCell a_o_dragBy a_o_sums a_o_shares a_o_keptFar a_o_image a_o_lanes a_o_sizes a_o_items a_o_movedItems o_taped o_at o_wrong o_level o_noRings o_noTones o_noFuel o_pieces o_drags o_all o_noPieces o_noDrags o_kept o_sets o_ringFar o_ringTone o_cellAt) → va_S A s.heap H locs → ∀ (ls : Array Slot), lv_has ls 6 [] → okP (f_X7_ringed_B123 y0 o_noRings o_noTones o_sets o_ringFar o_ringTone o_cellAt) post → W p l e (headSpec wsX7_ringed rm_X7_ringed).room s m ([.ref h_o, .int x1] : List Value).toArray below meth c H locs 0 0 Q (F0 m 123 ls [.int y0]) := by
    intro y0 H locs hP hD hS ls hl hw
    unfold f_X7_ringed_B123 at hw
    refine lv_istore (lv' := [(5, .int y0)]) hx hb dX7_ringed_123 hl (by decide) rfl (fun ls hl => ?_)
    refine lv_iload hx hb dX7_ringed_125 (lv_at hl 0 rfl) ?_
    refine lv_if_ge (tgt := 134) hx hb dX7_ringed_127 (by decide) (fun c_1 => ?_) (fun c_1 => ?_)
    · replace hw := okT hw c_1
      clear c_1
      refine lv_iload hx hb dX7_ringed_134 (lv_at hl 0 rfl) ?_
      refine lv_if_ne (tgt := 143) hx hb dX7_ringed_136 (by decide) (fun c_2 => ?_) (fun c_2 => ?_)
      · replace hw := okF hw c_2
        clear c_2
        refine lv_iload hx hb dX7_ringed_143 (lv_at hl 0 rfl) ?_
        refine lv_iconst (v := 1) hx hb dX7_ringed_145 (by decide) ?_
        refine lv_icmp_ne (tgt := 153) hx hb dX7_ringed_146 (by decide) (fun c_3 => ?_) (fun c_3 => ?_)
        · replace hw := okF hw c_3
          clear c_3
          refine lv_iconst (v := 0) hx hb dX7_ringed_153 (by decide) ?_
          rw [hQ]
          exact W.iret (v := 0) hx hb hr (fun t ht hW => ⟨⟨0, (), rfl, okS hw, by rw [ht]; exact hP, va_K.moved hW.alike hK, hD⟩, hS.F ht⟩) hS.2.2 dX7_ringed_154
        · replace hw := okT hw c_3
          clear c_3
          refine lv_iconst (v := 1) hx hb dX7_ringed_149 (by decide) ?_
          refine lv_goto (tgt := 154) hx hb dX7_ringed_150 (by decide) ?_
          rw [hQ]
          exact W.iret (v := 1) hx hb hr (fun t ht hW => ⟨⟨1, (), rfl, okS hw, by rw [ht]; exact hP, va_K.moved hW.alike hK, hD⟩, hS.F ht⟩) hS.2.2 dX7_ringed_154
      · replace hw := okT hw c_2
        clear c_2
        refine lv_iconst (v := 2) hx hb dX7_ringed_139 (by decide) ?_
        refine lv_goto (tgt := 154) hx hb dX7_ringed_140 (by decide) ?_
        rw [hQ]
        exact W.iret (v := 2) hx hb hr (fun t ht hW => ⟨⟨2, (), rfl, okS hw, by rw [ht]; exact hP, va_K.moved hW.alike hK, hD⟩, hS.F ht⟩) hS.2.2 dX7_ringed_154
    · replace hw := okF hw c_1
      clear c_1
      refine lv_iconst (v := 1) hx hb dX7_ringed_130 (by decide) ?_
      refine lv_goto (tgt := 154) hx hb dX7_ringed_131 (by decide) ?_
      rw [hQ]
      exact W.iret (v := 1) hx hb hr (fun t ht hW => ⟨⟨1, (), rfl, okS hw, by rw [ht]; exact hP, va_K.moved hW.alike hK, hD⟩, hS.F ht⟩) hS.2.2 dX7_ringed_154
  have w81 : ∀ (v1 : Int32) (v2 : Int32) (H : Heap) (locs : List Loc), va_P (dC, dI) vwCl (W_X7_ringed cyI cyJ cyO h_o a_o_sets a_o_ringFar a_o_ringTone a_o_currents a_o_warmths a_o_depths a_o_tape a_o_readFar a_o_readTone a_o_readSea a_o_code a_o_cellAt a_o_courseAt a_o_paceAt a_o_turnsAt a_o_slowAt a_o_fuelAt a_o_ringAt a_o_pieceParts a_o_dragCell a_o_dragBy a_o_sums a_o_shares a_o_keptFar a_o_image a_o_lanes a_o_sizes a_o_items a_o_movedItems o_taped o_at o_wrong o_level o_noRings o_noTones o_noFuel o_pieces o_drags o_all o_noPieces o_noDrags o_kept o_sets o_ringFar o_ringTone o_cellAt) H → va_D A (W_X7_ringed cyI cyJ cyO h_o a_o_sets a_o_ringFar a_o_ringTone a_o_currents a_o_warmths a_o_depths a_o_tape a_o_readFar a_o_readTone a_o_readSea a_o_code a_o_cellAt a_o_courseAt a_o_paceAt a_o_turnsAt a_o_slowAt a_o_fuelAt a_o_ringAt a_o_pieceParts a_o_dragCell a_o_dragBy a_o_sums a_o_shares a_o_keptFar a_o_image a_o_lanes a_o_sizes a_o_items a_o_movedItems o_taped o_at o_wrong o_level o_noRings o_noTones o_noFuel o_pieces o_drags o_all o_noPieces o_noDrags o_kept o_sets o_ringFar o_ringTone o_cellAt) → va_S A s.heap H locs → ∀ (ls : Array Slot), lv_has ls 6 [(0, .ref h_o), (1, .int v1), (2, .int v2)] → okP (f_X7_ringed_B81 v1 v2 o_noRings o_noTones o_sets o_ringFar o_ringTone o_cellAt) post → W p l e (headSpec wsX7_ringed rm_X7_ringed).room s m ([.ref h_o, .int x1] : List Value).toArray below meth c H locs 0 0 Q (F0 m 81 ls []) := by
    intro v1 v2 H locs hP hD hS ls hl hw
    unfold f_X7_ringed_B81 at hw
    refine lv_aload_n hx hb dX7_ringed_81 rfl (lv_at hl 0 rfl) ?_
    refine va_get (D := (dC, dI)) (ci := 7) (v := .ref a_o_ringFar) (C := RX7) (T := TX7) (N := 42) hx hb hts hi7 hown hK hP 0 rfl rfl 1 (by decide) hq0 (fun _ h9 => h9) rfl dX7_ringed_82 ?_
    refine lv_iload_n hx hb dX7_ringed_85 rfl (lv_at hl 1 rfl) ?_
    obtain ⟨h_4, hw⟩ := okC hw
    refine va_iald (i := v1) hx hb hK hP 2 0 rfl rfl h_4 dX7_ringed_86 ?_
    refine lv_if_ge (tgt := 94) hx hb dX7_ringed_87 (by decide) (fun c_5 => ?_) (fun c_5 => ?_)
    · replace hw := okT hw c_5
      clear c_5
      refine lv_iload_n hx hb dX7_ringed_94 rfl (lv_at hl 2 rfl) ?_
      refine lv_aload_n hx hb dX7_ringed_95 rfl (lv_at hl 0 rfl) ?_
      refine va_get (D := (dC, dI)) (ci := 7) (v := .ref a_o_ringFar) (C := RX7) (T := TX7) (N := 42) hx hb hts hi7 hown hK hP 0 rfl rfl 1 (by decide) hq0 (fun _ h9 => h9) rfl dX7_ringed_96 ?_
      refine lv_iload_n hx hb dX7_ringed_99 rfl (lv_at hl 1 rfl) ?_
      obtain ⟨h_6, hw⟩ := okC hw
      refine va_iald (i := v1) hx hb hK hP 2 0 rfl rfl h_6 dX7_ringed_100 ?_
      refine lv_icmp_ge (tgt := 115) hx hb dX7_ringed_101 (by decide) (fun c_7 => ?_) (fun c_7 => ?_)
      · replace hw := okT hw c_7
        clear c_7
        refine lv_iload_n hx hb dX7_ringed_115 rfl (lv_at hl 2 rfl) ?_
        refine lv_aload_n hx hb dX7_ringed_116 rfl (lv_at hl 0 rfl) ?_
        refine va_get (D := (dC, dI)) (ci := 7) (v := .ref a_o_ringFar) (C := RX7) (T := TX7) (N := 42) hx hb hts hi7 hown hK hP 0 rfl rfl 1 (by decide) hq0 (fun _ h9 => h9) rfl dX7_ringed_117 ?_
        refine lv_iload_n hx hb dX7_ringed_120 rfl (lv_at hl 1 rfl) ?_
        obtain ⟨h_8, hw⟩ := okC hw
        refine va_iald (i := v1) hx hb hK hP 2 0 rfl rfl h_8 dX7_ringed_121 ?_
        refine lv_isub hx hb dX7_ringed_122 ?_
        exact w123 (v2 - (o_ringFar v1.toNatClampNeg)) _ _ hP hD hS _ (lv_sub hl [] rfl) hw
      · replace hw := okF hw c_7
        clear c_7
        refine lv_aload_n hx hb dX7_ringed_104 rfl (lv_at hl 0 rfl) ?_
        refine va_get (D := (dC, dI)) (ci := 7) (v := .ref a_o_ringFar) (C := RX7) (T := TX7) (N := 42) hx hb hts hi7 hown hK hP 0 rfl rfl 1 (by decide) hq0 (fun _ h9 => h9) rfl dX7_ringed_105 ?_
        refine lv_iload_n hx hb dX7_ringed_108 rfl (lv_at hl 1 rfl) ?_
        obtain ⟨h_9, hw⟩ := okC hw
        refine va_iald (i := v1) hx hb hK hP 2 0 rfl rfl h_9 dX7_ringed_109 ?_
        refine lv_iload_n hx hb dX7_ringed_110 rfl (lv_at hl 2 rfl) ?_
        refine lv_isub hx hb dX7_ringed_111 ?_
        refine lv_goto (tgt := 123) hx hb dX7_ringed_112 (by decide) ?_
        exact w123 ((o_ringFar v1.toNatClampNeg) - v2) _ _ hP hD hS _ (lv_sub hl [] rfl) hw
    · replace hw := okF hw c_5
      clear c_5
      refine lv_iconst (v := (-1)) hx hb dX7_ringed_90 (by decide) ?_
      refine lv_goto (tgt := 123) hx hb dX7_ringed_91 (by decide) ?_
      exact w123 (-1) _ _ hP hD hS _ (lv_sub hl [] rfl) hw
  have w68 : ∀ (v1 : Int32) (v2 : Int32) (v3 : Int32) (v4 : Int32) (H : Heap) (locs : List Loc), va_P (dC, dI) vwCl (W_X7_ringed cyI cyJ cyO h_o a_o_sets a_o_ringFar a_o_ringTone a_o_currents a_o_warmths a_o_depths a_o_tape a_o_readFar a_o_readTone a_o_readSea a_o_code a_o_cellAt a_o_courseAt a_o_paceAt a_o_turnsAt a_o_slowAt a_o_fuelAt a_o_ringAt a_o_pieceParts a_o_dragCell a_o_dragBy a_o_sums a_o_shares a_o_keptFar a_o_image a_o_lanes a_o_sizes a_o_items a_o_movedItems o_taped o_at o_wrong o_level o_noRings o_noTones o_noFuel o_pieces o_drags o_all o_noPieces o_noDrags o_kept o_sets o_ringFar o_ringTone o_cellAt) H → va_D A (W_X7_ringed cyI cyJ cyO h_o a_o_sets a_o_ringFar a_o_ringTone a_o_currents a_o_warmths a_o_depths a_o_tape a_o_readFar a_o_readTone a_o_readSea a_o_code a_o_cellAt a_o_courseAt a_o_paceAt a_o_turnsAt a_o_slowAt a_o_fuelAt a_o_ringAt a_o_pieceParts a_o_dragCell a_o_dragBy a_o_sums a_o_shares a_o_keptFar a_o_image a_o_lanes a_o_sizes a_o_items a_o_movedItems o_taped o_at o_wrong o_level o_noRings o_noTones o_noFuel o_pieces o_drags o_all o_noPieces o_noDrags o_kept o_sets o_ringFar o_ringTone o_cellAt) → va_S A s.heap H locs → ∀ (ls : Array Slot), lv_has ls 6 [(0, .ref h_o), (1, .int v1), (2, .int v2), (3, .int v3), (4, .int v4)] → okP (f_X7_ringed_B68 v1 v2 v3 v4 o_noRings o_noTones o_sets o_ringFar o_ringTone o_cellAt) post → W p l e (headSpec wsX7_ringed rm_X7_ringed).room s m ([.ref h_o, .int x1] : List Value).toArray below meth c H locs 0 0 Q (F0 m 68 ls []) := by
    intro v1 v2 v3 v4 H locs hP hD hS ls hl hw
    unfold f_X7_ringed_B68 at hw
    refine lv_iload hx hb dX7_ringed_68 (lv_at hl 4 rfl) ?_
    refine lv_iconst (v := 2) hx hb dX7_ringed_70 (by decide) ?_
    refine lv_icmp_ne (tgt := 81) hx hb dX7_ringed_71 (by decide) (fun c_10 => ?_) (fun c_10 => ?_)
    · replace hw := okF hw c_10
      clear c_10
      exact w81 v1 v2 _ _ hP hD hS _ (lv_sub hl [0, 1, 2] rfl) hw
    · replace hw := okT hw c_10
      clear c_10
      refine lv_iload_n hx hb dX7_ringed_74 rfl (lv_at hl 2 rfl) ?_
      refine lv_iload_n hx hb dX7_ringed_75 rfl (lv_at hl 3 rfl) ?_
      refine lv_icmp_gt (tgt := 81) hx hb dX7_ringed_76 (by decide) (fun c_11 => ?_) (fun c_11 => ?_)
      · replace hw := okT hw c_11
        clear c_11
        exact w81 v1 v2 _ _ hP hD hS _ (lv_sub hl [0, 1, 2] rfl) hw
      · replace hw := okF hw c_11
        clear c_11
        refine lv_iconst (v := 0) hx hb dX7_ringed_79 (by decide) ?_
        rw [hQ]
        exact W.iret (v := 0) hx hb hr (fun t ht hW => ⟨⟨0, (), rfl, okS hw, by rw [ht]; exact hP, va_K.moved hW.alike hK, hD⟩, hS.F ht⟩) hS.2.2 dX7_ringed_80
  have w55 : ∀ (v1 : Int32) (v2 : Int32) (v3 : Int32) (y0 : Int32) (H : Heap) (locs : List Loc), va_P (dC, dI) vwCl (W_X7_ringed cyI cyJ cyO h_o a_o_sets a_o_ringFar a_o_ringTone a_o_currents a_o_warmths a_o_depths a_o_tape a_o_readFar a_o_readTone a_o_readSea a_o_code a_o_cellAt a_o_courseAt a_o_paceAt a_o_turnsAt a_o_slowAt a_o_fuelAt a_o_ringAt a_o_pieceParts a_o_dragCell a_o_dragBy a_o_sums a_o_shares a_o_keptFar a_o_image a_o_lanes a_o_sizes a_o_items a_o_movedItems o_taped o_at o_wrong o_level o_noRings o_noTones o_noFuel o_pieces o_drags o_all o_noPieces o_noDrags o_kept o_sets o_ringFar o_ringTone o_cellAt) H → va_D A (W_X7_ringed cyI cyJ cyO h_o a_o_sets a_o_ringFar a_o_ringTone a_o_currents a_o_warmths a_o_depths a_o_tape a_o_readFar a_o_readTone a_o_readSea a_o_code a_o_cellAt a_o_courseAt a_o_paceAt a_o_turnsAt a_o_slowAt a_o_fuelAt a_o_ringAt a_o_pieceParts a_o_dragCell a_o_dragBy a_o_sums a_o_shares a_o_keptFar a_o_image a_o_lanes a_o_sizes a_o_items a_o_movedItems o_taped o_at o_wrong o_level o_noRings o_noTones o_noFuel o_pieces o_drags o_all o_noPieces o_noDrags o_kept o_sets o_ringFar o_ringTone o_cellAt) → va_S A s.heap H locs → ∀ (ls : Array Slot), lv_has ls 6 [(0, .ref h_o), (1, .int v1), (2, .int v2), (3, .int v3)] → okP (f_X7_ringed_B55 v1 v2 v3 y0 o_noRings o_noTones o_sets o_ringFar o_ringTone o_cellAt) post → W p l e (headSpec wsX7_ringed rm_X7_ringed).room s m ([.ref h_o, .int x1] : List Value).toArray below meth c H locs 0 0 Q (F0 m 55 ls [.int y0]) := by
    intro v1 v2 v3 y0 H locs hP hD hS ls hl hw
    unfold f_X7_ringed_B55 at hw
    refine lv_istore (lv' := [(4, .int y0), (0, .ref h_o), (1, .int v1), (2, .int v2), (3, .int v3)]) hx hb dX7_ringed_55 hl (by decide) rfl (fun ls hl => ?_)
    refine lv_iload hx hb dX7_ringed_57 (lv_at hl 0 rfl) ?_
    refine lv_iconst (v := 1) hx hb dX7_ringed_59 (by decide) ?_
    refine lv_icmp_ne (tgt := 68) hx hb dX7_ringed_60 (by decide) (fun c_12 => ?_) (fun c_12 => ?_)
    · replace hw := okF hw c_12
      clear c_12
      exact w68 v1 v2 v3 y0 _ _ hP hD hS _ (lv_sub hl [1, 2, 3, 4, 0] rfl) hw
    · replace hw := okT hw c_12
      clear c_12
      refine lv_iload_n hx hb dX7_ringed_63 rfl (lv_at hl 3 rfl) ?_
      refine lv_iload_n hx hb dX7_ringed_64 rfl (lv_at hl 4 rfl) ?_
      refine lv_icmp_ge (tgt := 79) hx hb dX7_ringed_65 (by decide) (fun c_13 => ?_) (fun c_13 => ?_)
      · replace hw := okT hw c_13
        clear c_13
        refine lv_iconst (v := 0) hx hb dX7_ringed_79 (by decide) ?_
        rw [hQ]
        exact W.iret (v := 0) hx hb hr (fun t ht hW => ⟨⟨0, (), rfl, okS hw, by rw [ht]; exact hP, va_K.moved hW.alike hK, hD⟩, hS.F ht⟩) hS.2.2 dX7_ringed_80
      · replace hw := okF hw c_13
        clear c_13
        exact w68 v1 v2 v3 y0 _ _ hP hD hS _ (lv_sub hl [1, 2, 3, 4, 0] rfl) hw
  unfold f_X7_ringed at hw
  have hP : va_P (dC, dI) vwCl (W_X7_ringed cyI cyJ cyO h_o a_o_sets a_o_ringFar a_o_ringTone a_o_currents a_o_warmths a_o_depths a_o_tape a_o_readFar a_o_readTone a_o_readSea a_o_code a_o_cellAt a_o_courseAt a_o_paceAt a_o_turnsAt a_o_slowAt a_o_fuelAt a_o_ringAt a_o_pieceParts a_o_dragCell a_o_dragBy a_o_sums a_o_shares a_o_keptFar a_o_image a_o_lanes a_o_sizes a_o_items a_o_movedItems o_taped o_at o_wrong o_level o_noRings o_noTones o_noFuel o_pieces o_drags o_all o_noPieces o_noDrags o_kept o_sets o_ringFar o_ringTone o_cellAt) s.heap := hP
  obtain ⟨H, hH⟩ : ∃ H, H = s.heap := ⟨_, rfl⟩
  obtain ⟨locs, hlo⟩ : ∃ x : List Loc, x = [] := ⟨_, rfl⟩
  have hP : va_P (dC, dI) vwCl (W_X7_ringed cyI cyJ cyO h_o a_o_sets a_o_ringFar a_o_ringTone a_o_currents a_o_warmths a_o_depths a_o_tape a_o_readFar a_o_readTone a_o_readSea a_o_code a_o_cellAt a_o_courseAt a_o_paceAt a_o_turnsAt a_o_slowAt a_o_fuelAt a_o_ringAt a_o_pieceParts a_o_dragCell a_o_dragBy a_o_sums a_o_shares a_o_keptFar a_o_image a_o_lanes a_o_sizes a_o_items a_o_movedItems o_taped o_at o_wrong o_level o_noRings o_noTones o_noFuel o_pieces o_drags o_all o_noPieces o_noDrags o_kept o_sets o_ringFar o_ringTone o_cellAt) H := by rw [hH]; exact hP
  have hS : va_S A s.heap H locs := by rw [hH, hlo]; exact hS
  refine kH hH hlo ?_
  clear hH hlo
  refine lv_aload_n hx hb dX7_ringed_0 rfl (lv_at hl 0 rfl) ?_
  refine va_get (D := (dC, dI)) (ci := 7) (v := .int o_noRings) (C := RX7) (T := TX7) (N := 42) hx hb hts hi7 hown hK hP 0 rfl rfl 22 (by decide) hq2 (fun _ h9 => h9) rfl dX7_ringed_1 ?_
  refine lv_iload_n hx hb dX7_ringed_4 rfl (lv_at hl 1 rfl) ?_
  refine lv_ishr hx hb dX7_ringed_5 ?_
  refine lv_iconst (v := 1) hx hb dX7_ringed_6 (by decide) ?_
  refine lv_iand hx hb dX7_ringed_7 ?_
  refine lv_iconst (v := 1) hx hb dX7_ringed_8 (by decide) ?_
  refine lv_icmp_ne (tgt := 14) hx hb dX7_ringed_9 (by decide) (fun c_14 => ?_) (fun c_14 => ?_)
  · replace hw := okF hw c_14
    clear c_14
    refine lv_aload_n hx hb dX7_ringed_14 rfl (lv_at hl 0 rfl) ?_
    refine lv_aload_n hx hb dX7_ringed_15 rfl (lv_at hl 0 rfl) ?_
    refine va_get (D := (dC, dI)) (ci := 7) (v := .ref a_o_cellAt) (C := RX7) (T := TX7) (N := 42) hx hb hts hi7 hown hK hP 0 rfl rfl 14 (by decide) hq3 (fun _ h9 => h9) rfl dX7_ringed_16 ?_
    refine lv_iload_n hx hb dX7_ringed_19 rfl (lv_at hl 1 rfl) ?_
    obtain ⟨h_15, hw⟩ := okC hw
    refine va_iald (i := x1) hx hb hK hP 4 0 rfl rfl h_15 dX7_ringed_20 ?_
    have hPc := hP.sub (ws' := (W_X7_away cyI cyJ cyO h_o a_o_sets a_o_ringFar a_o_ringTone a_o_currents a_o_warmths a_o_depths a_o_tape a_o_readFar a_o_readTone a_o_readSea a_o_code a_o_cellAt a_o_courseAt a_o_paceAt a_o_turnsAt a_o_slowAt a_o_fuelAt a_o_ringAt a_o_pieceParts a_o_dragCell a_o_dragBy a_o_sums a_o_shares a_o_keptFar a_o_image a_o_lanes a_o_sizes a_o_items a_o_movedItems o_taped o_at o_wrong o_level o_noRings o_noTones o_noFuel o_pieces o_drags o_all o_noPieces o_noDrags o_kept o_sets)) [0, 1] rfl
    have hDc := hD.sub (ws' := (W_X7_away cyI cyJ cyO h_o a_o_sets a_o_ringFar a_o_ringTone a_o_currents a_o_warmths a_o_depths a_o_tape a_o_readFar a_o_readTone a_o_readSea a_o_code a_o_cellAt a_o_courseAt a_o_paceAt a_o_turnsAt a_o_slowAt a_o_fuelAt a_o_ringAt a_o_pieceParts a_o_dragCell a_o_dragBy a_o_sums a_o_shares a_o_keptFar a_o_image a_o_lanes a_o_sizes a_o_items a_o_movedItems o_taped o_at o_wrong o_level o_noRings o_noTones o_noFuel o_pieces o_drags o_all o_noPieces o_noDrags o_kept o_sets)) [0, 1] (by decide +kernel) rfl
    have hFc := va_free (wc := (W_X7_away cyI cyJ cyO h_o a_o_sets a_o_ringFar a_o_ringTone a_o_currents a_o_warmths a_o_depths a_o_tape a_o_readFar a_o_readTone a_o_readSea a_o_code a_o_cellAt a_o_courseAt a_o_paceAt a_o_turnsAt a_o_slowAt a_o_fuelAt a_o_ringAt a_o_pieceParts a_o_dragCell a_o_dragBy a_o_sums a_o_shares a_o_keptFar a_o_image a_o_lanes a_o_sizes a_o_items a_o_movedItems o_taped o_at o_wrong o_level o_noRings o_noTones o_noFuel o_pieces o_drags o_all o_noPieces o_noDrags o_kept o_sets)) hD hS hA [0, 1] rfl
    refine kc_i (wr := [(a_o_ringFar, .inl (cyI, 7, .inl o_ringFar)), (a_o_ringTone, .inl (cyI, 7, .inl o_ringTone)), (a_o_cellAt, .inl (cyI, 7, .inl o_cellAt))]) (va_runV (As := [.int (o_cellAt x1.toNatClampNeg)]) (rest := []) ⟨hx, hb, hml, hown, hts⟩ (c_X7_away l dC dI cyI cyJ cyO H.size h_o a_o_sets a_o_ringFar a_o_ringTone a_o_currents a_o_warmths a_o_depths a_o_tape a_o_readFar a_o_readTone a_o_readSea a_o_code a_o_cellAt a_o_courseAt a_o_paceAt a_o_turnsAt a_o_slowAt a_o_fuelAt a_o_ringAt a_o_pieceParts a_o_dragCell a_o_dragBy a_o_sums a_o_shares a_o_keptFar a_o_image a_o_lanes a_o_sizes a_o_items a_o_movedItems o_taped o_at o_wrong o_level o_noRings o_noTones o_noFuel o_pieces o_drags o_all o_noPieces o_noDrags o_kept o_sets (o_cellAt x1.toNatClampNeg) _ (okb1 hw)) (cwV 1 hts (gdV (fun w h => List.mem_cons_of_mem _ h) q_849 q_851 qs_24 q_8 q_852) rfl rfl rfl (by decide +kernel) ⟨Nat.le_of_ble_eq_true rfl, Nat.le_of_ble_eq_true rfl⟩) ⟨(kpre zN_ok hK hPc hDc trivial hS hFc).1, va_recv hK hP (ci := 7) (q0 := 0) rfl rfl, (kpre zN_ok hK hPc hDc trivial hS hFc).2⟩ rfl rfl hl.1 rfl (lv_room (Nat.le_of_ble_eq_true rfl)) dX7_ringed_21 ⟨Nat.le_of_ble_eq_true rfl, Nat.le_of_ble_eq_true rfl⟩) hP hD hS hFc [0, 1] [2, 3, 4] rfl rfl (by decide +kernel) (by decide +kernel) (fun r_16 u H locs hw hP hD hS => ?_)
    try dsimp only at hw
    have hP : va_P (dC, dI) vwCl (W_X7_ringed cyI cyJ cyO h_o a_o_sets a_o_ringFar a_o_ringTone a_o_currents a_o_warmths a_o_depths a_o_tape a_o_readFar a_o_readTone a_o_readSea a_o_code a_o_cellAt a_o_courseAt a_o_paceAt a_o_turnsAt a_o_slowAt a_o_fuelAt a_o_ringAt a_o_pieceParts a_o_dragCell a_o_dragBy a_o_sums a_o_shares a_o_keptFar a_o_image a_o_lanes a_o_sizes a_o_items a_o_movedItems o_taped o_at o_wrong o_level o_noRings o_noTones o_noFuel o_pieces o_drags o_all o_noPieces o_noDrags o_kept o_sets o_ringFar o_ringTone o_cellAt) H := hP.sub [3, 4, 0, 1, 2] rfl
    have hD : va_D A (W_X7_ringed cyI cyJ cyO h_o a_o_sets a_o_ringFar a_o_ringTone a_o_currents a_o_warmths a_o_depths a_o_tape a_o_readFar a_o_readTone a_o_readSea a_o_code a_o_cellAt a_o_courseAt a_o_paceAt a_o_turnsAt a_o_slowAt a_o_fuelAt a_o_ringAt a_o_pieceParts a_o_dragCell a_o_dragBy a_o_sums a_o_shares a_o_keptFar a_o_image a_o_lanes a_o_sizes a_o_items a_o_movedItems o_taped o_at o_wrong o_level o_noRings o_noTones o_noFuel o_pieces o_drags o_all o_noPieces o_noDrags o_kept o_sets o_ringFar o_ringTone o_cellAt) := hD.sub [3, 4, 0, 1, 2] (by decide +kernel) rfl
    clear hPc hDc hFc
    refine lv_istore_n (lv' := [(2, .int r_16), (0, .ref h_o), (1, .int x1)]) hx hb dX7_ringed_24 rfl hl (by decide) rfl (fun ls hl => ?_)
    refine lv_aload_n hx hb dX7_ringed_25 rfl (lv_at hl 1 rfl) ?_
    refine lv_aload_n hx hb dX7_ringed_26 rfl (lv_at hl 1 rfl) ?_
    refine va_get (D := (dC, dI)) (ci := 7) (v := .ref a_o_cellAt) (C := RX7) (T := TX7) (N := 42) hx hb hts hi7 hown hK hP 0 rfl rfl 14 (by decide) hq3 (fun _ h9 => h9) rfl dX7_ringed_27 ?_
    refine lv_iload_n hx hb dX7_ringed_30 rfl (lv_at hl 2 rfl) ?_
    refine lv_iconst (v := 1) hx hb dX7_ringed_31 (by decide) ?_
    refine lv_isub hx hb dX7_ringed_32 ?_
    obtain ⟨h_17, hw⟩ := okC hw
    refine va_iald (i := x1 - 1) hx hb hK hP 4 0 rfl rfl h_17 dX7_ringed_33 ?_
    have hPc := hP.sub (ws' := (W_X7_away cyI cyJ cyO h_o a_o_sets a_o_ringFar a_o_ringTone a_o_currents a_o_warmths a_o_depths a_o_tape a_o_readFar a_o_readTone a_o_readSea a_o_code a_o_cellAt a_o_courseAt a_o_paceAt a_o_turnsAt a_o_slowAt a_o_fuelAt a_o_ringAt a_o_pieceParts a_o_dragCell a_o_dragBy a_o_sums a_o_shares a_o_keptFar a_o_image a_o_lanes a_o_sizes a_o_items a_o_movedItems o_taped o_at o_wrong o_level o_noRings o_noTones o_noFuel o_pieces o_drags o_all o_noPieces o_noDrags o_kept o_sets)) [0, 1] rfl
    have hDc := hD.sub (ws' := (W_X7_away cyI cyJ cyO h_o a_o_sets a_o_ringFar a_o_ringTone a_o_currents a_o_warmths a_o_depths a_o_tape a_o_readFar a_o_readTone a_o_readSea a_o_code a_o_cellAt a_o_courseAt a_o_paceAt a_o_turnsAt a_o_slowAt a_o_fuelAt a_o_ringAt a_o_pieceParts a_o_dragCell a_o_dragBy a_o_sums a_o_shares a_o_keptFar a_o_image a_o_lanes a_o_sizes a_o_items a_o_movedItems o_taped o_at o_wrong o_level o_noRings o_noTones o_noFuel o_pieces o_drags o_all o_noPieces o_noDrags o_kept o_sets)) [0, 1] (by decide +kernel) rfl
    have hFc := va_free (wc := (W_X7_away cyI cyJ cyO h_o a_o_sets a_o_ringFar a_o_ringTone a_o_currents a_o_warmths a_o_depths a_o_tape a_o_readFar a_o_readTone a_o_readSea a_o_code a_o_cellAt a_o_courseAt a_o_paceAt a_o_turnsAt a_o_slowAt a_o_fuelAt a_o_ringAt a_o_pieceParts a_o_dragCell a_o_dragBy a_o_sums a_o_shares a_o_keptFar a_o_image a_o_lanes a_o_sizes a_o_items a_o_movedItems o_taped o_at o_wrong o_level o_noRings o_noTones o_noFuel o_pieces o_drags o_all o_noPieces o_noDrags o_kept o_sets)) hD hS hA [0, 1] rfl
    refine kc_i (wr := [(a_o_ringFar, .inl (cyI, 7, .inl o_ringFar)), (a_o_ringTone, .inl (cyI, 7, .inl o_ringTone)), (a_o_cellAt, .inl (cyI, 7, .inl o_cellAt))]) (va_runV (As := [.int (o_cellAt (x1 - 1).toNatClampNeg)]) (rest := []) ⟨hx, hb, hml, hown, hts⟩ (c_X7_away l dC dI cyI cyJ cyO H.size h_o a_o_sets a_o_ringFar a_o_ringTone a_o_currents a_o_warmths a_o_depths a_o_tape a_o_readFar a_o_readTone a_o_readSea a_o_code a_o_cellAt a_o_courseAt a_o_paceAt a_o_turnsAt a_o_slowAt a_o_fuelAt a_o_ringAt a_o_pieceParts a_o_dragCell a_o_dragBy a_o_sums a_o_shares a_o_keptFar a_o_image a_o_lanes a_o_sizes a_o_items a_o_movedItems o_taped o_at o_wrong o_level o_noRings o_noTones o_noFuel o_pieces o_drags o_all o_noPieces o_noDrags o_kept o_sets (o_cellAt (x1 - 1).toNatClampNeg) _ (okb1 hw)) (cwV 1 hts (gdV (fun w h => List.mem_cons_of_mem _ h) q_849 q_851 qs_24 q_8 q_852) rfl rfl rfl (by decide +kernel) ⟨Nat.le_of_ble_eq_true rfl, Nat.le_of_ble_eq_true rfl⟩) ⟨(kpre zN_ok hK hPc hDc trivial hS hFc).1, va_recv hK hP (ci := 7) (q0 := 0) rfl rfl, (kpre zN_ok hK hPc hDc trivial hS hFc).2⟩ rfl rfl hl.1 rfl (lv_room (Nat.le_of_ble_eq_true rfl)) dX7_ringed_34 ⟨Nat.le_of_ble_eq_true rfl, Nat.le_of_ble_eq_true rfl⟩) hP hD hS hFc [0, 1] [2, 3, 4] rfl rfl (by decide +kernel) (by decide +kernel) (fun r_18 u H locs hw hP hD hS => ?_)
    try dsimp only at hw
    have hP : va_P (dC, dI) vwCl (W_X7_ringed cyI cyJ cyO h_o a_o_sets a_o_ringFar a_o_ringTone a_o_currents a_o_warmths a_o_depths a_o_tape a_o_readFar a_o_readTone a_o_readSea a_o_code a_o_cellAt a_o_courseAt a_o_paceAt a_o_turnsAt a_o_slowAt a_o_fuelAt a_o_ringAt a_o_pieceParts a_o_dragCell a_o_dragBy a_o_sums a_o_shares a_o_keptFar a_o_image a_o_lanes a_o_sizes a_o_items a_o_movedItems o_taped o_at o_wrong o_level o_noRings o_noTones o_noFuel o_pieces o_drags o_all o_noPieces o_noDrags o_kept o_sets o_ringFar o_ringTone o_cellAt) H := hP.sub [3, 4, 0, 1, 2] rfl
    have hD : va_D A (W_X7_ringed cyI cyJ cyO h_o a_o_sets a_o_ringFar a_o_ringTone a_o_currents a_o_warmths a_o_depths a_o_tape a_o_readFar a_o_readTone a_o_readSea a_o_code a_o_cellAt a_o_courseAt a_o_paceAt a_o_turnsAt a_o_slowAt a_o_fuelAt a_o_ringAt a_o_pieceParts a_o_dragCell a_o_dragBy a_o_sums a_o_shares a_o_keptFar a_o_image a_o_lanes a_o_sizes a_o_items a_o_movedItems o_taped o_at o_wrong o_level o_noRings o_noTones o_noFuel o_pieces o_drags o_all o_noPieces o_noDrags o_kept o_sets o_ringFar o_ringTone o_cellAt) := hD.sub [3, 4, 0, 1, 2] (by decide +kernel) rfl
    clear hPc hDc hFc
    refine lv_istore_n (lv' := [(3, .int r_18), (2, .int r_16), (0, .ref h_o), (1, .int x1)]) hx hb dX7_ringed_37 rfl hl (by decide) rfl (fun ls hl => ?_)
    refine lv_aload_n hx hb dX7_ringed_38 rfl (lv_at hl 2 rfl) ?_
    refine va_get (D := (dC, dI)) (ci := 7) (v := .int o_noTones) (C := RX7) (T := TX7) (N := 42) hx hb hts hi7 hown hK hP 0 rfl rfl 23 (by decide) hq4 (fun _ h9 => h9) rfl dX7_ringed_39 ?_
    refine lv_if_eq (tgt := 49) hx hb dX7_ringed_42 (by decide) (fun c_19 => ?_) (fun c_19 => ?_)
    · replace hw := okT hw c_19
      clear c_19
      refine lv_aload_n hx hb dX7_ringed_49 rfl (lv_at hl 2 rfl) ?_
      refine va_get (D := (dC, dI)) (ci := 7) (v := .ref a_o_ringTone) (C := RX7) (T := TX7) (N := 42) hx hb hts hi7 hown hK hP 0 rfl rfl 2 (by decide) hq5 (fun _ h9 => h9) rfl dX7_ringed_50 ?_
      refine lv_iload_n hx hb dX7_ringed_53 rfl (lv_at hl 3 rfl) ?_
      obtain ⟨h_20, hw⟩ := okC hw
      refine va_iald (i := x1) hx hb hK hP 3 0 rfl rfl h_20 dX7_ringed_54 ?_
      exact w55 x1 r_16 r_18 (o_ringTone x1.toNatClampNeg) _ _ hP hD hS _ (lv_sub hl [2, 3, 1, 0] rfl) hw
    · replace hw := okF hw c_19
      clear c_19
      refine lv_iconst (v := 0) hx hb dX7_ringed_45 (by decide) ?_
      refine lv_goto (tgt := 55) hx hb dX7_ringed_46 (by decide) ?_
      exact w55 x1 r_16 r_18 0 _ _ hP hD hS _ (lv_sub hl [2, 3, 1, 0] rfl) hw
  · replace hw := okT hw c_14
    clear c_14
    refine lv_iconst (v := 1) hx hb dX7_ringed_12 (by decide) ?_
    rw [hQ]
    exact W.iret (v := 1) hx hb hr (fun t ht hW => ⟨⟨1, (), rfl, okS hw, by rw [ht]; exact hP, va_K.moved hW.alike hK, hD⟩, hS.F ht⟩) hS.2.2 dX7_ringed_13
/-! ===== X7_goes ===== -/
theorem dX7_goes_0 : decode cX7_goes 0 = .ok (.aload_n 0, 1) := by decide +kernel
theorem dX7_goes_1 : decode cX7_goes 1 = .ok (.getfield 164, 3) := by decide +kernel
theorem dX7_goes_4 : decode cX7_goes 4 = .ok (.istore_n 1, 1) := by decide +kernel
theorem dX7_goes_5 : decode cX7_goes 5 = .ok (.aload_n 0, 1) := by decide +kernel
theorem dX7_goes_6 : decode cX7_goes 6 = .ok (.getfield 40, 3) := by decide +kernel
theorem dX7_goes_9 : decode cX7_goes 9 = .ok (.iload_n 1, 1) := by decide +kernel
theorem dX7_goes_10 : decode cX7_goes 10 = .ok (.iaload, 1) := by decide +kernel
theorem dX7_goes_11 : decode cX7_goes 11 = .ok (.istore_n 2, 1) := by decide +kernel
theorem dX7_goes_12 : decode cX7_goes 12 = .ok (.aload_n 0, 1) := by decide +kernel
theorem dX7_goes_13 : decode cX7_goes 13 = .ok (.getfield 52, 3) := by decide +kernel
theorem dX7_goes_16 : decode cX7_goes 16 = .ok (.iload_n 1, 1) := by decide +kernel
theorem dX7_goes_17 : decode cX7_goes 17 = .ok (.iaload, 1) := by decide +kernel
theorem dX7_goes_18 : decode cX7_goes 18 = .ok (.istore_n 3, 1) := by decide +kernel
theorem dX7_goes_19 : decode cX7_goes 19 = .ok (.aload_n 0, 1) := by decide +kernel
theorem dX7_goes_20 : decode cX7_goes 20 = .ok (.getfield 55, 3) := by decide +kernel
theorem dX7_goes_23 : decode cX7_goes 23 = .ok (.iload_n 1, 1) := by decide +kernel
theorem dX7_goes_24 : decode cX7_goes 24 = .ok (.iaload, 1) := by decide +kernel
theorem dX7_goes_25 : decode cX7_goes 25 = .ok (.istore 4, 2) := by decide +kernel
theorem dX7_goes_27 : decode cX7_goes 27 = .ok (.iload_n 1, 1) := by decide +kernel
theorem dX7_goes_28 : decode cX7_goes 28 = .ok (.ifCond .ne 9, 3) := by decide +kernel
theorem dX7_goes_31 : decode cX7_goes 31 = .ok (.iload_n 2, 1) := by decide +kernel
theorem dX7_goes_32 : decode cX7_goes 32 = .ok (.iconst 3, 1) := by decide +kernel
theorem dX7_goes_33 : decode cX7_goes 33 = .ok (.idiv, 1) := by decide +kernel
theorem dX7_goes_34 : decode cX7_goes 34 = .ok (.goto 11, 3) := by decide +kernel
theorem dX7_goes_37 : decode cX7_goes 37 = .ok (.aload_n 0, 1) := by decide +kernel
theorem dX7_goes_38 : decode cX7_goes 38 = .ok (.getfield 46, 3) := by decide +kernel
theorem dX7_goes_41 : decode cX7_goes 41 = .ok (.iload_n 1, 1) := by decide +kernel
theorem dX7_goes_42 : decode cX7_goes 42 = .ok (.iconst 1, 1) := by decide +kernel
theorem dX7_goes_43 : decode cX7_goes 43 = .ok (.isub, 1) := by decide +kernel
theorem dX7_goes_44 : decode cX7_goes 44 = .ok (.iaload, 1) := by decide +kernel
theorem dX7_goes_45 : decode cX7_goes 45 = .ok (.istore 5, 2) := by decide +kernel
theorem dX7_goes_47 : decode cX7_goes 47 = .ok (.iload_n 1, 1) := by decide +kernel
theorem dX7_goes_48 : decode cX7_goes 48 = .ok (.ifCond .ne 11, 3) := by decide +kernel
theorem dX7_goes_51 : decode cX7_goes 51 = .ok (.iload_n 2, 1) := by decide +kernel
theorem dX7_goes_52 : decode cX7_goes 52 = .ok (.iconst 3, 1) := by decide +kernel
theorem dX7_goes_53 : decode cX7_goes 53 = .ok (.irem, 1) := by decide +kernel
theorem dX7_goes_54 : decode cX7_goes 54 = .ok (.iconst 1, 1) := by decide +kernel
theorem dX7_goes_55 : decode cX7_goes 55 = .ok (.iadd, 1) := by decide +kernel
theorem dX7_goes_56 : decode cX7_goes 56 = .ok (.goto 11, 3) := by decide +kernel
theorem dX7_goes_59 : decode cX7_goes 59 = .ok (.aload_n 0, 1) := by decide +kernel
theorem dX7_goes_60 : decode cX7_goes 60 = .ok (.getfield 49, 3) := by decide +kernel
theorem dX7_goes_63 : decode cX7_goes 63 = .ok (.iload_n 1, 1) := by decide +kernel
theorem dX7_goes_64 : decode cX7_goes 64 = .ok (.iconst 1, 1) := by decide +kernel
theorem dX7_goes_65 : decode cX7_goes 65 = .ok (.isub, 1) := by decide +kernel
theorem dX7_goes_66 : decode cX7_goes 66 = .ok (.iaload, 1) := by decide +kernel
theorem dX7_goes_67 : decode cX7_goes 67 = .ok (.istore 6, 2) := by decide +kernel
theorem dX7_goes_69 : decode cX7_goes 69 = .ok (.iload_n 1, 1) := by decide +kernel
theorem dX7_goes_70 : decode cX7_goes 70 = .ok (.ifCond .le 55, 3) := by decide +kernel
theorem dX7_goes_73 : decode cX7_goes 73 = .ok (.iload_n 2, 1) := by decide +kernel
theorem dX7_goes_74 : decode cX7_goes 74 = .ok (.iconst 1, 1) := by decide +kernel
theorem dX7_goes_75 : decode cX7_goes 75 = .ok (.if_icmp .le 7, 3) := by decide +kernel
theorem dX7_goes_78 : decode cX7_goes 78 = .ok (.iconst 1, 1) := by decide +kernel
theorem dX7_goes_79 : decode cX7_goes 79 = .ok (.goto 4, 3) := by decide +kernel
theorem dX7_goes_82 : decode cX7_goes 82 = .ok (.iconst 0, 1) := by decide +kernel
theorem dX7_goes_83 : decode cX7_goes 83 = .ok (.istore 7, 2) := by decide +kernel
theorem dX7_goes_85 : decode cX7_goes 85 = .ok (.iload 7, 2) := by decide +kernel
theorem dX7_goes_87 : decode cX7_goes 87 = .ok (.ifCond .eq 25, 3) := by decide +kernel
theorem dX7_goes_90 : decode cX7_goes 90 = .ok (.iload_n 2, 1) := by decide +kernel
theorem dX7_goes_91 : decode cX7_goes 91 = .ok (.iconst 2, 1) := by decide +kernel
theorem dX7_goes_92 : decode cX7_goes 92 = .ok (.idiv, 1) := by decide +kernel
theorem dX7_goes_93 : decode cX7_goes 93 = .ok (.iconst 1, 1) := by decide +kernel
theorem dX7_goes_94 : decode cX7_goes 94 = .ok (.isub, 1) := by decide +kernel
theorem dX7_goes_95 : decode cX7_goes 95 = .ok (.iload 5, 2) := by decide +kernel
theorem dX7_goes_97 : decode cX7_goes 97 = .ok (.if_icmp .ne 5, 3) := by decide +kernel
theorem dX7_goes_100 : decode cX7_goes 100 = .ok (.iconst 0, 1) := by decide +kernel
theorem dX7_goes_101 : decode cX7_goes 101 = .ok (.ireturn, 1) := by decide +kernel
theorem dX7_goes_102 : decode cX7_goes 102 = .ok (.iload_n 2, 1) := by decide +kernel
theorem dX7_goes_103 : decode cX7_goes 103 = .ok (.iconst 2, 1) := by decide +kernel
theorem dX7_goes_104 : decode cX7_goes 104 = .ok (.idiv, 1) := by decide +kernel
theorem dX7_goes_105 : decode cX7_goes 105 = .ok (.iconst 1, 1) := by decide +kernel
theorem dX7_goes_106 : decode cX7_goes 106 = .ok (.isub, 1) := by decide +kernel
theorem dX7_goes_107 : decode cX7_goes 107 = .ok (.istore 5, 2) := by decide +kernel
theorem dX7_goes_109 : decode cX7_goes 109 = .ok (.iinc 3 1, 3) := by decide +kernel
theorem dX7_goes_112 : decode cX7_goes 112 = .ok (.iload_n 2, 1) := by decide +kernel
theorem dX7_goes_113 : decode cX7_goes 113 = .ok (.iconst 2, 1) := by decide +kernel
theorem dX7_goes_114 : decode cX7_goes 114 = .ok (.irem, 1) := by decide +kernel
theorem dX7_goes_115 : decode cX7_goes 115 = .ok (.iconst 1, 1) := by decide +kernel
theorem dX7_goes_116 : decode cX7_goes 116 = .ok (.if_icmp .ne 9, 3) := by decide +kernel
theorem dX7_goes_119 : decode cX7_goes 119 = .ok (.iinc 4 1, 3) := by decide +kernel
theorem dX7_goes_122 : decode cX7_goes 122 = .ok (.iinc 6 (-1), 3) := by decide +kernel
theorem dX7_goes_125 : decode cX7_goes 125 = .ok (.iload_n 3, 1) := by decide +kernel
theorem dX7_goes_126 : decode cX7_goes 126 = .ok (.aload_n 0, 1) := by decide +kernel
theorem dX7_goes_127 : decode cX7_goes 127 = .ok (.getfield 7, 3) := by decide +kernel
theorem dX7_goes_130 : decode cX7_goes 130 = .ok (.iconst 3, 1) := by decide +kernel
theorem dX7_goes_131 : decode cX7_goes 131 = .ok (.iaload, 1) := by decide +kernel
theorem dX7_goes_132 : decode cX7_goes 132 = .ok (.if_icmp .gt 20, 3) := by decide +kernel
theorem dX7_goes_135 : decode cX7_goes 135 = .ok (.iload 4, 2) := by decide +kernel
theorem dX7_goes_137 : decode cX7_goes 137 = .ok (.aload_n 0, 1) := by decide +kernel
theorem dX7_goes_138 : decode cX7_goes 138 = .ok (.getfield 7, 3) := by decide +kernel
theorem dX7_goes_141 : decode cX7_goes 141 = .ok (.iconst 4, 1) := by decide +kernel
theorem dX7_goes_142 : decode cX7_goes 142 = .ok (.iaload, 1) := by decide +kernel
theorem dX7_goes_143 : decode cX7_goes 143 = .ok (.if_icmp .gt 9, 3) := by decide +kernel
theorem dX7_goes_146 : decode cX7_goes 146 = .ok (.iload 6, 2) := by decide +kernel
theorem dX7_goes_148 : decode cX7_goes 148 = .ok (.iconst 1, 1) := by decide +kernel
theorem dX7_goes_149 : decode cX7_goes 149 = .ok (.if_icmp .ge 5, 3) := by decide +kernel
theorem dX7_goes_152 : decode cX7_goes 152 = .ok (.iconst 0, 1) := by decide +kernel
theorem dX7_goes_153 : decode cX7_goes 153 = .ok (.ireturn, 1) := by decide +kernel
theorem dX7_goes_154 : decode cX7_goes 154 = .ok (.aload_n 0, 1) := by decide +kernel
theorem dX7_goes_155 : decode cX7_goes 155 = .ok (.getfield 58, 3) := by decide +kernel
theorem dX7_goes_158 : decode cX7_goes 158 = .ok (.iload_n 1, 1) := by decide +kernel
theorem dX7_goes_159 : decode cX7_goes 159 = .ok (.iaload, 1) := by decide +kernel
theorem dX7_goes_160 : decode cX7_goes 160 = .ok (.iload 6, 2) := by decide +kernel
theorem dX7_goes_162 : decode cX7_goes 162 = .ok (.iload 6, 2) := by decide +kernel
theorem dX7_goes_164 : decode cX7_goes 164 = .ok (.imul, 1) := by decide +kernel
theorem dX7_goes_165 : decode cX7_goes 165 = .ok (.iadd, 1) := by decide +kernel
theorem dX7_goes_166 : decode cX7_goes 166 = .ok (.istore 7, 2) := by decide +kernel
theorem dX7_goes_168 : decode cX7_goes 168 = .ok (.aload_n 0, 1) := by decide +kernel
theorem dX7_goes_169 : decode cX7_goes 169 = .ok (.getfield 43, 3) := by decide +kernel
theorem dX7_goes_172 : decode cX7_goes 172 = .ok (.iload_n 1, 1) := by decide +kernel
theorem dX7_goes_173 : decode cX7_goes 173 = .ok (.iaload, 1) := by decide +kernel
theorem dX7_goes_174 : decode cX7_goes 174 = .ok (.iload 5, 2) := by decide +kernel
theorem dX7_goes_176 : decode cX7_goes 176 = .ok (.iload 6, 2) := by decide +kernel
theorem dX7_goes_178 : decode cX7_goes 178 = .ok (.invokestatic 173, 3) := by decide +kernel
theorem dX7_goes_181 : decode cX7_goes 181 = .ok (.istore 8, 2) := by decide +kernel
theorem dX7_goes_183 : decode cX7_goes 183 = .ok (.iload 8, 2) := by decide +kernel
theorem dX7_goes_185 : decode cX7_goes 185 = .ok (.ifCond .lt 21, 3) := by decide +kernel
theorem dX7_goes_188 : decode cX7_goes 188 = .ok (.aload_n 0, 1) := by decide +kernel
theorem dX7_goes_189 : decode cX7_goes 189 = .ok (.getfield 177, 3) := by decide +kernel
theorem dX7_goes_192 : decode cX7_goes 192 = .ok (.ifCond .ne 16, 3) := by decide +kernel
theorem dX7_goes_195 : decode cX7_goes 195 = .ok (.iload 7, 2) := by decide +kernel
theorem dX7_goes_197 : decode cX7_goes 197 = .ok (.aload_n 0, 1) := by decide +kernel
theorem dX7_goes_198 : decode cX7_goes 198 = .ok (.getfield 7, 3) := by decide +kernel
theorem dX7_goes_201 : decode cX7_goes 201 = .ok (.iconst 5, 1) := by decide +kernel
theorem dX7_goes_202 : decode cX7_goes 202 = .ok (.iaload, 1) := by decide +kernel
theorem dX7_goes_203 : decode cX7_goes 203 = .ok (.if_icmp .le 5, 3) := by decide +kernel
theorem dX7_goes_206 : decode cX7_goes 206 = .ok (.iconst 0, 1) := by decide +kernel
theorem dX7_goes_207 : decode cX7_goes 207 = .ok (.ireturn, 1) := by decide +kernel
theorem dX7_goes_208 : decode cX7_goes 208 = .ok (.aload_n 0, 1) := by decide +kernel
theorem dX7_goes_209 : decode cX7_goes 209 = .ok (.getfield 46, 3) := by decide +kernel
theorem dX7_goes_212 : decode cX7_goes 212 = .ok (.iload_n 1, 1) := by decide +kernel
theorem dX7_goes_213 : decode cX7_goes 213 = .ok (.iload 5, 2) := by decide +kernel
theorem dX7_goes_215 : decode cX7_goes 215 = .ok (.iastore, 1) := by decide +kernel
theorem dX7_goes_216 : decode cX7_goes 216 = .ok (.aload_n 0, 1) := by decide +kernel
theorem dX7_goes_217 : decode cX7_goes 217 = .ok (.getfield 49, 3) := by decide +kernel
theorem dX7_goes_220 : decode cX7_goes 220 = .ok (.iload_n 1, 1) := by decide +kernel
theorem dX7_goes_221 : decode cX7_goes 221 = .ok (.iload 6, 2) := by decide +kernel
theorem dX7_goes_223 : decode cX7_goes 223 = .ok (.iastore, 1) := by decide +kernel
theorem dX7_goes_224 : decode cX7_goes 224 = .ok (.aload_n 0, 1) := by decide +kernel
theorem dX7_goes_225 : decode cX7_goes 225 = .ok (.getfield 43, 3) := by decide +kernel
theorem dX7_goes_228 : decode cX7_goes 228 = .ok (.iload_n 1, 1) := by decide +kernel
theorem dX7_goes_229 : decode cX7_goes 229 = .ok (.iconst 1, 1) := by decide +kernel
theorem dX7_goes_230 : decode cX7_goes 230 = .ok (.iadd, 1) := by decide +kernel
theorem dX7_goes_231 : decode cX7_goes 231 = .ok (.iload 8, 2) := by decide +kernel
theorem dX7_goes_233 : decode cX7_goes 233 = .ok (.iastore, 1) := by decide +kernel
theorem dX7_goes_234 : decode cX7_goes 234 = .ok (.aload_n 0, 1) := by decide +kernel
theorem dX7_goes_235 : decode cX7_goes 235 = .ok (.getfield 52, 3) := by decide +kernel
theorem dX7_goes_238 : decode cX7_goes 238 = .ok (.iload_n 1, 1) := by decide +kernel
theorem dX7_goes_239 : decode cX7_goes 239 = .ok (.iconst 1, 1) := by decide +kernel
theorem dX7_goes_240 : decode cX7_goes 240 = .ok (.iadd, 1) := by decide +kernel
theorem dX7_goes_241 : decode cX7_goes 241 = .ok (.iload_n 3, 1) := by decide +kernel
theorem dX7_goes_242 : decode cX7_goes 242 = .ok (.iastore, 1) := by decide +kernel
theorem dX7_goes_243 : decode cX7_goes 243 = .ok (.aload_n 0, 1) := by decide +kernel
theorem dX7_goes_244 : decode cX7_goes 244 = .ok (.getfield 55, 3) := by decide +kernel
theorem dX7_goes_247 : decode cX7_goes 247 = .ok (.iload_n 1, 1) := by decide +kernel
theorem dX7_goes_248 : decode cX7_goes 248 = .ok (.iconst 1, 1) := by decide +kernel
theorem dX7_goes_249 : decode cX7_goes 249 = .ok (.iadd, 1) := by decide +kernel
theorem dX7_goes_250 : decode cX7_goes 250 = .ok (.iload 4, 2) := by decide +kernel
theorem dX7_goes_252 : decode cX7_goes 252 = .ok (.iastore, 1) := by decide +kernel
theorem dX7_goes_253 : decode cX7_goes 253 = .ok (.aload_n 0, 1) := by decide +kernel
theorem dX7_goes_254 : decode cX7_goes 254 = .ok (.getfield 58, 3) := by decide +kernel
theorem dX7_goes_257 : decode cX7_goes 257 = .ok (.iload_n 1, 1) := by decide +kernel
theorem dX7_goes_258 : decode cX7_goes 258 = .ok (.iconst 1, 1) := by decide +kernel
theorem dX7_goes_259 : decode cX7_goes 259 = .ok (.iadd, 1) := by decide +kernel
theorem dX7_goes_260 : decode cX7_goes 260 = .ok (.iload 7, 2) := by decide +kernel
theorem dX7_goes_262 : decode cX7_goes 262 = .ok (.iastore, 1) := by decide +kernel
theorem dX7_goes_263 : decode cX7_goes 263 = .ok (.aload_n 0, 1) := by decide +kernel
theorem dX7_goes_264 : decode cX7_goes 264 = .ok (.getfield 61, 3) := by decide +kernel
theorem dX7_goes_267 : decode cX7_goes 267 = .ok (.iload_n 1, 1) := by decide +kernel
theorem dX7_goes_268 : decode cX7_goes 268 = .ok (.iconst 1, 1) := by decide +kernel
theorem dX7_goes_269 : decode cX7_goes 269 = .ok (.iadd, 1) := by decide +kernel
theorem dX7_goes_270 : decode cX7_goes 270 = .ok (.aload_n 0, 1) := by decide +kernel
theorem dX7_goes_271 : decode cX7_goes 271 = .ok (.getfield 61, 3) := by decide +kernel
theorem dX7_goes_274 : decode cX7_goes 274 = .ok (.iload_n 1, 1) := by decide +kernel
theorem dX7_goes_275 : decode cX7_goes 275 = .ok (.iaload, 1) := by decide +kernel
theorem dX7_goes_276 : decode cX7_goes 276 = .ok (.aload_n 0, 1) := by decide +kernel
theorem dX7_goes_277 : decode cX7_goes 277 = .ok (.iload_n 1, 1) := by decide +kernel
theorem dX7_goes_278 : decode cX7_goes 278 = .ok (.iconst 1, 1) := by decide +kernel
theorem dX7_goes_279 : decode cX7_goes 279 = .ok (.iadd, 1) := by decide +kernel
theorem dX7_goes_280 : decode cX7_goes 280 = .ok (.invokevirtual 180, 3) := by decide +kernel
theorem dX7_goes_283 : decode cX7_goes 283 = .ok (.imul, 1) := by decide +kernel
theorem dX7_goes_284 : decode cX7_goes 284 = .ok (.iastore, 1) := by decide +kernel
theorem dX7_goes_285 : decode cX7_goes 285 = .ok (.aload_n 0, 1) := by decide +kernel
theorem dX7_goes_286 : decode cX7_goes 286 = .ok (.getfield 61, 3) := by decide +kernel
theorem dX7_goes_289 : decode cX7_goes 289 = .ok (.iload_n 1, 1) := by decide +kernel
theorem dX7_goes_290 : decode cX7_goes 290 = .ok (.iconst 1, 1) := by decide +kernel
theorem dX7_goes_291 : decode cX7_goes 291 = .ok (.iadd, 1) := by decide +kernel
theorem dX7_goes_292 : decode cX7_goes 292 = .ok (.iaload, 1) := by decide +kernel
theorem dX7_goes_293 : decode cX7_goes 293 = .ok (.ifCond .le 7, 3) := by decide +kernel
theorem dX7_goes_296 : decode cX7_goes 296 = .ok (.iconst 1, 1) := by decide +kernel
theorem dX7_goes_297 : decode cX7_goes 297 = .ok (.goto 4, 3) := by decide +kernel
theorem dX7_goes_300 : decode cX7_goes 300 = .ok (.iconst 0, 1) := by decide +kernel
theorem dX7_goes_301 : decode cX7_goes 301 = .ok (.ireturn, 1) := by decide +kernel
abbrev W_X7_goes (cyI cyJ cyO : ClassId) (h_o a_o_sets a_o_ringFar a_o_ringTone a_o_currents a_o_warmths a_o_depths a_o_tape a_o_readFar a_o_readTone a_o_readSea a_o_code a_o_cellAt a_o_courseAt a_o_paceAt a_o_turnsAt a_o_slowAt a_o_fuelAt a_o_ringAt a_o_pieceParts a_o_dragCell a_o_dragBy a_o_sums a_o_shares a_o_keptFar a_o_image a_o_lanes a_o_sizes a_o_items a_o_movedItems : Nat) (o_taped : Int32) (o_at : Int32) (o_wrong : Int32) (o_level : Int32) (o_noRings : Int32) (o_noTones : Int32) (o_noFuel : Int32) (o_pieces : Int32) (o_drags : Int32) (o_all : Int64) (o_noPieces : Int32) (o_noDrags : Int32) (o_kept : Int32) (o_sets : Nat → Int32) (o_ringFar : Nat → Int32) (o_ringTone : Nat → Int32) (o_code : Nat → Int32) (o_cellAt : Nat → Int32) (o_courseAt : Nat → Int32) (o_paceAt : Nat → Int32) (o_turnsAt : Nat → Int32) (o_slowAt : Nat → Int32) (o_fuelAt : Nat → Int32) (o_ringAt : Nat → Int32) : va_W := [(h_o, .inr (7, [.ref a_o_sets, .ref a_o_ringFar, .ref a_o_ringTone, .ref a_o_currents, .ref a_o_warmths, .ref a_o_depths, .ref a_o_tape, .int o_taped, .int o_at, .int o_wrong, .ref a_o_readFar, .ref a_o_readTone, .ref a_o_readSea, .ref a_o_code, .ref a_o_cellAt, .ref a_o_courseAt, .ref a_o_paceAt, .ref a_o_turnsAt, .ref a_o_slowAt, .ref a_o_fuelAt, .ref a_o_ringAt, .int o_level, .int o_noRings, .int o_noTones, .int o_noFuel, .int o_pieces, .ref a_o_pieceParts, .int o_drags, .ref a_o_dragCell, .ref a_o_dragBy, .ref a_o_sums, .long o_all, .int o_noPieces, .int o_noDrags, .ref a_o_shares, .ref a_o_keptFar, .ref a_o_image, .int o_kept, .ref a_o_lanes, .ref a_o_sizes, .ref a_o_items, .ref a_o_movedItems])), (a_o_sets, .inl (cyI, 8, .inl o_sets)), (a_o_ringFar, .inl (cyI, 7, .inl o_ringFar)), (a_o_ringTone, .inl (cyI, 7, .inl o_ringTone)), (a_o_code, .inl (cyI, 7, .inl o_code)), (a_o_cellAt, .inl (cyI, 7, .inl o_cellAt)), (a_o_courseAt, .inl (cyI, 7, .inl o_courseAt)), (a_o_paceAt, .inl (cyI, 7, .inl o_paceAt)), (a_o_turnsAt, .inl (cyI, 7, .inl o_turnsAt)), (a_o_slowAt, .inl (cyI, 7, .inl o_slowAt)), (a_o_fuelAt, .inl (cyI, 7, .inl o_fuelAt)), (a_o_ringAt, .inl (cyI, 7, .inl o_ringAt))]
def f_X7_goes_B208 (v1 : Int32) (v3 : Int32) (v4 : Int32) (v5 : Int32) (v6 : Int32) (v7 : Int32) (v8 : Int32) (o_level : Int32) (o_noRings : Int32) (o_noTones : Int32) (o_noFuel : Int32) (o_sets : Nat → Int32) (o_ringFar : Nat → Int32) (o_ringTone : Nat → Int32) (o_code : Nat → Int32) (o_cellAt : Nat → Int32) (o_courseAt : Nat → Int32) (o_paceAt : Nat → Int32) (o_turnsAt : Nat → Int32) (o_slowAt : Nat → Int32) (o_fuelAt : Nat → Int32) (o_ringAt : Nat → Int32) : Option (Int32 × (Nat → Int32) × (Nat → Int32) × (Nat → Int32) × (Nat → Int32) × (Nat → Int32) × (Nat → Int32) × (Nat → Int32)) :=
  chk (¬ (v1 < 0 ∨ 7 ≤ v1.toNatClampNeg)) <|
  chk (¬ (v1 < 0 ∨ 7 ≤ v1.toNatClampNeg)) <|
  chk (¬ (v1 + 1 < 0 ∨ 7 ≤ (v1 + 1).toNatClampNeg)) <|
  chk (¬ (v1 + 1 < 0 ∨ 7 ≤ (v1 + 1).toNatClampNeg)) <|
  chk (¬ (v1 + 1 < 0 ∨ 7 ≤ (v1 + 1).toNatClampNeg)) <|
  chk (¬ (v1 + 1 < 0 ∨ 7 ≤ (v1 + 1).toNatClampNeg)) <|
  chk (¬ (v1 < 0 ∨ 7 ≤ v1.toNatClampNeg)) <|
  bd1 (f_X7_ringed (v1 + 1) o_noRings o_noTones o_sets o_ringFar o_ringTone (upd o_cellAt (v1 + 1).toNatClampNeg v8)) fun r_1 =>
  nm ((o_ringAt v1.toNatClampNeg) * r_1) fun x_2 =>
  chk (¬ (v1 + 1 < 0 ∨ 7 ≤ (v1 + 1).toNatClampNeg)) <|
  chk (¬ (v1 + 1 < 0 ∨ 7 ≤ (v1 + 1).toNatClampNeg)) <|
  if ((upd o_ringAt (v1 + 1).toNatClampNeg x_2) (v1 + 1).toNatClampNeg) ≤ 0 then
    some (0, upd o_cellAt (v1 + 1).toNatClampNeg v8, upd o_courseAt v1.toNatClampNeg v5, upd o_paceAt v1.toNatClampNeg v6, upd o_turnsAt (v1 + 1).toNatClampNeg v3, upd o_slowAt (v1 + 1).toNatClampNeg v4, upd o_fuelAt (v1 + 1).toNatClampNeg v7, upd o_ringAt (v1 + 1).toNatClampNeg x_2)
  else
    some (1, upd o_cellAt (v1 + 1).toNatClampNeg v8, upd o_courseAt v1.toNatClampNeg v5, upd o_paceAt v1.toNatClampNeg v6, upd o_turnsAt (v1 + 1).toNatClampNeg v3, upd o_slowAt (v1 + 1).toNatClampNeg v4, upd o_fuelAt (v1 + 1).toNatClampNeg v7, upd o_ringAt (v1 + 1).toNatClampNeg x_2)
def f_X7_goes_B125 (v1 : Int32) (v3 : Int32) (v4 : Int32) (v5 : Int32) (v6 : Int32) (o_level : Int32) (o_noRings : Int32) (o_noTones : Int32) (o_noFuel : Int32) (o_sets : Nat → Int32) (o_ringFar : Nat → Int32) (o_ringTone : Nat → Int32) (o_code : Nat → Int32) (o_cellAt : Nat → Int32) (o_courseAt : Nat → Int32) (o_paceAt : Nat → Int32) (o_turnsAt : Nat → Int32) (o_slowAt : Nat → Int32) (o_fuelAt : Nat → Int32) (o_ringAt : Nat → Int32) : Option (Int32 × (Nat → Int32) × (Nat → Int32) × (Nat → Int32) × (Nat → Int32) × (Nat → Int32) × (Nat → Int32) × (Nat → Int32)) :=
  if (o_sets 3) < v3 then
    some (0, o_cellAt, o_courseAt, o_paceAt, o_turnsAt, o_slowAt, o_fuelAt, o_ringAt)
  else
    if (o_sets 4) < v4 then
      some (0, o_cellAt, o_courseAt, o_paceAt, o_turnsAt, o_slowAt, o_fuelAt, o_ringAt)
    else
      if 1 ≤ v6 then
        chk (¬ (v1 < 0 ∨ 7 ≤ v1.toNatClampNeg)) <|
        nm ((o_fuelAt v1.toNatClampNeg) + (v6 * v6)) fun x_3 =>
        chk (¬ (v1 < 0 ∨ 7 ≤ v1.toNatClampNeg)) <|
        bd1 (f_X7_gone (o_cellAt v1.toNatClampNeg) v5 v6) fun r_4 =>
        if r_4 < 0 then
          some (0, o_cellAt, o_courseAt, o_paceAt, o_turnsAt, o_slowAt, o_fuelAt, o_ringAt)
        else
          if o_noFuel = 0 then
            if x_3 ≤ (o_sets 5) then
              f_X7_goes_B208 v1 v3 v4 v5 v6 x_3 r_4 o_level o_noRings o_noTones o_noFuel o_sets o_ringFar o_ringTone o_code o_cellAt o_courseAt o_paceAt o_turnsAt o_slowAt o_fuelAt o_ringAt
            else
              some (0, o_cellAt, o_courseAt, o_paceAt, o_turnsAt, o_slowAt, o_fuelAt, o_ringAt)
          else
            f_X7_goes_B208 v1 v3 v4 v5 v6 x_3 r_4 o_level o_noRings o_noTones o_noFuel o_sets o_ringFar o_ringTone o_code o_cellAt o_courseAt o_paceAt o_turnsAt o_slowAt o_fuelAt o_ringAt
      else
        some (0, o_cellAt, o_courseAt, o_paceAt, o_turnsAt, o_slowAt, o_fuelAt, o_ringAt)
def f_X7_goes_B112 (v1 : Int32) (v2 : Int32) (v3 : Int32) (v4 : Int32) (v5 : Int32) (v6 : Int32) (o_level : Int32) (o_noRings : Int32) (o_noTones : Int32) (o_noFuel : Int32) (o_sets : Nat → Int32) (o_ringFar : Nat → Int32) (o_ringTone : Nat → Int32) (o_code : Nat → Int32) (o_cellAt : Nat → Int32) (o_courseAt : Nat → Int32) (o_paceAt : Nat → Int32) (o_turnsAt : Nat → Int32) (o_slowAt : Nat → Int32) (o_fuelAt : Nat → Int32) (o_ringAt : Nat → Int32) : Option (Int32 × (Nat → Int32) × (Nat → Int32) × (Nat → Int32) × (Nat → Int32) × (Nat → Int32) × (Nat → Int32) × (Nat → Int32)) :=
  if (v2 - v2 / 2 * 2) = 1 then
    nm (v4 + 1) fun x_5 =>
    nm (v6 + (-1)) fun x_6 =>
    f_X7_goes_B125 v1 v3 x_5 v5 x_6 o_level o_noRings o_noTones o_noFuel o_sets o_ringFar o_ringTone o_code o_cellAt o_courseAt o_paceAt o_turnsAt o_slowAt o_fuelAt o_ringAt
  else
    f_X7_goes_B125 v1 v3 v4 v5 v6 o_level o_noRings o_noTones o_noFuel o_sets o_ringFar o_ringTone o_code o_cellAt o_courseAt o_paceAt o_turnsAt o_slowAt o_fuelAt o_ringAt
def f_X7_goes_B83 (v1 : Int32) (v2 : Int32) (v3 : Int32) (v4 : Int32) (v5 : Int32) (v6 : Int32) (y0 : Int32) (o_level : Int32) (o_noRings : Int32) (o_noTones : Int32) (o_noFuel : Int32) (o_sets : Nat → Int32) (o_ringFar : Nat → Int32) (o_ringTone : Nat → Int32) (o_code : Nat → Int32) (o_cellAt : Nat → Int32) (o_courseAt : Nat → Int32) (o_paceAt : Nat → Int32) (o_turnsAt : Nat → Int32) (o_slowAt : Nat → Int32) (o_fuelAt : Nat → Int32) (o_ringAt : Nat → Int32) : Option (Int32 × (Nat → Int32) × (Nat → Int32) × (Nat → Int32) × (Nat → Int32) × (Nat → Int32) × (Nat → Int32) × (Nat → Int32)) :=
  if y0 = 0 then
    f_X7_goes_B112 v1 v2 v3 v4 v5 v6 o_level o_noRings o_noTones o_noFuel o_sets o_ringFar o_ringTone o_code o_cellAt o_courseAt o_paceAt o_turnsAt o_slowAt o_fuelAt o_ringAt
  else
    if ((v2 / 2) - 1) = v5 then
      some (0, o_cellAt, o_courseAt, o_paceAt, o_turnsAt, o_slowAt, o_fuelAt, o_ringAt)
    else
      nm ((v2 / 2) - 1) fun x_7 =>
      nm (v3 + 1) fun x_8 =>
      f_X7_goes_B112 v1 v2 x_8 v4 x_7 v6 o_level o_noRings o_noTones o_noFuel o_sets o_ringFar o_ringTone o_code o_cellAt o_courseAt o_paceAt o_turnsAt o_slowAt o_fuelAt o_ringAt
def f_X7_goes_B67 (v1 : Int32) (v2 : Int32) (v3 : Int32) (v4 : Int32) (v5 : Int32) (y0 : Int32) (o_level : Int32) (o_noRings : Int32) (o_noTones : Int32) (o_noFuel : Int32) (o_sets : Nat → Int32) (o_ringFar : Nat → Int32) (o_ringTone : Nat → Int32) (o_code : Nat → Int32) (o_cellAt : Nat → Int32) (o_courseAt : Nat → Int32) (o_paceAt : Nat → Int32) (o_turnsAt : Nat → Int32) (o_slowAt : Nat → Int32) (o_fuelAt : Nat → Int32) (o_ringAt : Nat → Int32) : Option (Int32 × (Nat → Int32) × (Nat → Int32) × (Nat → Int32) × (Nat → Int32) × (Nat → Int32) × (Nat → Int32) × (Nat → Int32)) :=
  if v1 ≤ 0 then
    f_X7_goes_B125 v1 v3 v4 v5 y0 o_level o_noRings o_noTones o_noFuel o_sets o_ringFar o_ringTone o_code o_cellAt o_courseAt o_paceAt o_turnsAt o_slowAt o_fuelAt o_ringAt
  else
    if v2 ≤ 1 then
      f_X7_goes_B83 v1 v2 v3 v4 v5 y0 0 o_level o_noRings o_noTones o_noFuel o_sets o_ringFar o_ringTone o_code o_cellAt o_courseAt o_paceAt o_turnsAt o_slowAt o_fuelAt o_ringAt
    else
      f_X7_goes_B83 v1 v2 v3 v4 v5 y0 1 o_level o_noRings o_noTones o_noFuel o_sets o_ringFar o_ringTone o_code o_cellAt o_courseAt o_paceAt o_turnsAt o_slowAt o_fuelAt o_ringAt
def f_X7_goes_B45 (v1 : Int32) (v2 : Int32) (v3 : Int32) (v4 : Int32) (y0 : Int32) (o_level : Int32) (o_noRings : Int32) (o_noTones : Int32) (o_noFuel : Int32) (o_sets : Nat → Int32) (o_ringFar : Nat → Int32) (o_ringTone : Nat → Int32) (o_code : Nat → Int32) (o_cellAt : Nat → Int32) (o_courseAt : Nat → Int32) (o_paceAt : Nat → Int32) (o_turnsAt : Nat → Int32) (o_slowAt : Nat → Int32) (o_fuelAt : Nat → Int32) (o_ringAt : Nat → Int32) : Option (Int32 × (Nat → Int32) × (Nat → Int32) × (Nat → Int32) × (Nat → Int32) × (Nat → Int32) × (Nat → Int32) × (Nat → Int32)) :=
  if v1 = 0 then
    f_X7_goes_B67 v1 v2 v3 v4 y0 ((v2 - v2 / 3 * 3) + 1) o_level o_noRings o_noTones o_noFuel o_sets o_ringFar o_ringTone o_code o_cellAt o_courseAt o_paceAt o_turnsAt o_slowAt o_fuelAt o_ringAt
  else
    chk (¬ (v1 - 1 < 0 ∨ 7 ≤ (v1 - 1).toNatClampNeg)) <|
    f_X7_goes_B67 v1 v2 v3 v4 y0 (o_paceAt (v1 - 1).toNatClampNeg) o_level o_noRings o_noTones o_noFuel o_sets o_ringFar o_ringTone o_code o_cellAt o_courseAt o_paceAt o_turnsAt o_slowAt o_fuelAt o_ringAt
def f_X7_goes (o_level : Int32) (o_noRings : Int32) (o_noTones : Int32) (o_noFuel : Int32) (o_sets : Nat → Int32) (o_ringFar : Nat → Int32) (o_ringTone : Nat → Int32) (o_code : Nat → Int32) (o_cellAt : Nat → Int32) (o_courseAt : Nat → Int32) (o_paceAt : Nat → Int32) (o_turnsAt : Nat → Int32) (o_slowAt : Nat → Int32) (o_fuelAt : Nat → Int32) (o_ringAt : Nat → Int32) : Option (Int32 × (Nat → Int32) × (Nat → Int32) × (Nat → Int32) × (Nat → Int32) × (Nat → Int32) × (Nat → Int32) × (Nat → Int32)) :=
  chk (¬ (o_level < 0 ∨ 7 ≤ o_level.toNatClampNeg)) <|
  nm (o_code o_level.toNatClampNeg) fun x_9 =>
  chk (¬ (o_level < 0 ∨ 7 ≤ o_level.toNatClampNeg)) <|
  nm (o_turnsAt o_level.toNatClampNeg) fun x_10 =>
  chk (¬ (o_level < 0 ∨ 7 ≤ o_level.toNatClampNeg)) <|
  nm (o_slowAt o_level.toNatClampNeg) fun x_11 =>
  if o_level = 0 then
    f_X7_goes_B45 o_level x_9 x_10 x_11 (x_9 / 3) o_level o_noRings o_noTones o_noFuel o_sets o_ringFar o_ringTone o_code o_cellAt o_courseAt o_paceAt o_turnsAt o_slowAt o_fuelAt o_ringAt
  else
    chk (¬ (o_level - 1 < 0 ∨ 7 ≤ (o_level - 1).toNatClampNeg)) <|
    f_X7_goes_B45 o_level x_9 x_10 x_11 (o_courseAt (o_level - 1).toNatClampNeg) o_level o_noRings o_noTones o_noFuel o_sets o_ringFar o_ringTone o_code o_cellAt o_courseAt o_paceAt o_turnsAt o_slowAt o_fuelAt o_ringAt
abbrev rm_X7_goes : Room := { frames := 2, cells := 0, slots := 0, locals := 50 }
set_option maxRecDepth 100000 in
set_option maxHeartbeats 4000000 in
theorem c_X7_goes (l : Launch) (dC : Nat → ClassId) (dI : Nat → Nat → Nat) (cyI cyJ cyO : ClassId) (sz : Nat) (h_o a_o_sets a_o_ringFar a_o_ringTone a_o_currents a_o_warmths a_o_depths a_o_tape a_o_readFar a_o_readTone a_o_readSea a_o_code a_o_cellAt a_o_courseAt a_o_paceAt a_o_turnsAt a_o_slowAt a_o_fuelAt a_o_ringAt a_o_pieceParts a_o_dragCell a_o_dragBy a_o_sums a_o_shares a_o_keptFar a_o_image a_o_lanes a_o_sizes a_o_items a_o_movedItems : Nat) (o_taped : Int32) (o_at : Int32) (o_wrong : Int32) (o_level : Int32) (o_noRings : Int32) (o_noTones : Int32) (o_noFuel : Int32) (o_pieces : Int32) (o_drags : Int32) (o_all : Int64) (o_noPieces : Int32) (o_noDrags : Int32) (o_kept : Int32) (o_sets : Nat → Int32) (o_ringFar : Nat → Int32) (o_ringTone : Nat → Int32) (o_code : Nat → Int32) (o_cellAt : Nat → Int32) (o_courseAt : Nat → Int32) (o_paceAt : Nat → Int32) (o_turnsAt : Nat → Int32) (o_slowAt : Nat → Int32) (o_fuelAt : Nat → Int32) (o_ringAt : Nat → Int32) (post : (Int32 × (Nat → Int32) × (Nat → Int32) × (Nat → Int32) × (Nat → Int32) × (Nat → Int32) × (Nat → Int32) × (Nat → Int32)) → Prop) (hf : okP (f_X7_goes o_level o_noRings o_noTones o_noFuel o_sets o_ringFar o_ringTone o_code o_cellAt o_courseAt o_paceAt o_turnsAt o_slowAt o_fuelAt o_ringAt) post) : Ci l (dC, dI) (tyL cyI cyJ cyO) yX7_goes wsX7_goes rm_X7_goes [.ref h_o] sz (W_X7_goes cyI cyJ cyO h_o a_o_sets a_o_ringFar a_o_ringTone a_o_currents a_o_warmths a_o_depths a_o_tape a_o_readFar a_o_readTone a_o_readSea a_o_code a_o_cellAt a_o_courseAt a_o_paceAt a_o_turnsAt a_o_slowAt a_o_fuelAt a_o_ringAt a_o_pieceParts a_o_dragCell a_o_dragBy a_o_sums a_o_shares a_o_keptFar a_o_image a_o_lanes a_o_sizes a_o_items a_o_movedItems o_taped o_at o_wrong o_level o_noRings o_noTones o_noFuel o_pieces o_drags o_all o_noPieces o_noDrags o_kept o_sets o_ringFar o_ringTone o_code o_cellAt o_courseAt o_paceAt o_turnsAt o_slowAt o_fuelAt o_ringAt) zN (fun r u => post (r, u)) (fun u => (W_X7_goes cyI cyJ cyO h_o a_o_sets a_o_ringFar a_o_ringTone a_o_currents a_o_warmths a_o_depths a_o_tape a_o_readFar a_o_readTone a_o_readSea a_o_code a_o_cellAt a_o_courseAt a_o_paceAt a_o_turnsAt a_o_slowAt a_o_fuelAt a_o_ringAt a_o_pieceParts a_o_dragCell a_o_dragBy a_o_sums a_o_shares a_o_keptFar a_o_image a_o_lanes a_o_sizes a_o_items a_o_movedItems o_taped o_at o_wrong o_level o_noRings o_noTones o_noFuel o_pieces o_drags o_all o_noPieces o_noDrags o_kept o_sets o_ringFar o_ringTone o_code u.1 u.2.1 u.2.2.1 u.2.2.2.1 u.2.2.2.2.1 u.2.2.2.2.2.1 u.2.2.2.2.2.2)) := by
  refine Met.ofW (cc := cX7_goes) (maxL := 9) (ret := (some .boolean)) (by decide) rfl ?_
  intro p e s m args below meth c s₁ B hml hv
  obtain ⟨rfl, hsz, hP, hK, hD0, hZ⟩ := hv
  have hx := B.exec
  have hb := B.bytes
  have hr := B.returns
  have hts := atoms_spec (ws := wsX7_goes) B.pre
  have hown : s.vm.findClass RX7 = some m.cls := findClass_of_methodNamed B.named
  have hlocks := B.notSynchronized
  subst hsz
  have hD := hD0.self (sz := s.heap.size)
  generalize hAe : va_A (W_X7_goes cyI cyJ cyO h_o a_o_sets a_o_ringFar a_o_ringTone a_o_currents a_o_warmths a_o_depths a_o_tape a_o_readFar a_o_readTone a_o_readSea a_o_code a_o_cellAt a_o_courseAt a_o_paceAt a_o_turnsAt a_o_slowAt a_o_fuelAt a_o_ringAt a_o_pieceParts a_o_dragCell a_o_dragBy a_o_sums a_o_shares a_o_keptFar a_o_image a_o_lanes a_o_sizes a_o_items a_o_movedItems o_taped o_at o_wrong o_level o_noRings o_noTones o_noFuel o_pieces o_drags o_all o_noPieces o_noDrags o_kept o_sets o_ringFar o_ringTone o_code o_cellAt o_courseAt o_paceAt o_turnsAt o_slowAt o_fuelAt o_ringAt) s.heap.size = A at hD hZ ⊢
  have hA : ∀ q : Nat, s.heap.size ≤ q → A q := fun q h => by rw [← hAe]; exact Or.inr h
  clear hAe hD0
  have hS : va_S A s.heap s.heap [] := va_S.rf
  have hl := lv_entry ([.ref h_o]) (n := 9) (Nat.le_of_ble_eq_true rfl)
  rw [lg_entry_eq]
  generalize (lg_sl ([.ref h_o]) ++ List.replicate (9 - (lg_sl ([.ref h_o])).length) Slot.unset).toArray = ls at hl ⊢
  have hl : lv_has ls 9 [(0, .ref h_o)] := hl
  refine kW (fun Q hQ => ?_)
  have hq0 := hts _ (List.mem_cons_of_mem _ q_721)
  have hi7 : ∀ w ∈ u_ws RX7 TX7 42, w ∈ wsX7_goes := fun w h => List.mem_cons_of_mem _ (inX7 w h)
  have hq2 := hts _ (List.mem_cons_of_mem _ q_722)
  have hq3 := hts _ (List.mem_cons_of_mem _ q_720)
  have hq4 := hts _ (List.mem_cons_of_mem _ q_723)
  have hq5 := hts _ (List.mem_cons_of_mem _ q_724)
  have hq6 := hts _ (List.mem_cons_of_mem _ q_725)
  have hq7 := hts _ (List.mem_cons_of_mem _ q_726)
  have hq8 := hts _ (List.mem_cons_of_mem _ q_706)
  have hq9 := hts _ (List.mem_cons_of_mem _ q_730)
  have hq10 := hts _ (List.mem_cons_of_mem _ q_727)
  have hq11 := hts _ (List.mem_cons_of_mem _ q_719)
  have hw := hf
  have w208 : ∀ (v1 : Int32) (v3 : Int32) (v4 : Int32) (v5 : Int32) (v6 : Int32) (v7 : Int32) (v8 : Int32) (o_cellAt : Nat → Int32) (o_courseAt : Nat → Int32) (o_paceAt : Nat → Int32) (o_turnsAt : Nat → Int32) (o_slowAt : Nat → Int32) (o_fuelAt : Nat → Int32) (o_ringAt : Nat → Int32) (H : Heap) (locs : List Loc), va_P (dC, dI) vwCl (W_X7_goes cyI cyJ cyO h_o a_o_sets a_o_ringFar a_o_ringTone a_o_currents a_o_warmths a_o_depths a_o_tape a_o_readFar a_o_readTone a_o_readSea a_o_code a_o_cellAt a_o_courseAt a_o_paceAt a_o_turnsAt a_o_slowAt a_o_fuelAt a_o_ringAt a_o_pieceParts a_o_dragCell a_o_dragBy a_o_sums a_o_shares a_o_keptFar a_o_image a_o_lanes a_o_sizes a_o_items a_o_movedItems o_taped o_at o_wrong o_level o_noRings o_noTones o_noFuel o_pieces o_drags o_all o_noPieces o_noDrags o_kept o_sets o_ringFar o_ringTone o_code o_cellAt o_courseAt o_paceAt o_turnsAt o_slowAt o_fuelAt o_ringAt) H → va_D A (W_X7_goes cyI cyJ cyO h_o a_o_sets a_o_ringFar a_o_ringTone a_o_currents a_o_warmths a_o_depths a_o_tape a_o_readFar a_o_readTone a_o_readSea a_o_code a_o_cellAt a_o_courseAt a_o_paceAt a_o_turnsAt a_o_slowAt a_o_fuelAt a_o_ringAt a_o_pieceParts a_o_dragCell a_o_dragBy a_o_sums a_o_shares a_o_keptFar a_o_image a_o_lanes a_o_sizes a_o_items a_o_movedItems o_taped o_at o_wrong o_level o_noRings o_noTones o_noFuel o_pieces o_drags o_all o_noPieces o_noDrags o_kept o_sets o_ringFar o_ringTone o_code o_cellAt o_courseAt o_paceAt o_turnsAt o_slowAt o_fuelAt o_ringAt) → va_S A s.heap H locs → ∀ (ls : Array Slot), lv_has ls 9 [(0, .ref h_o), (1, .int v1), (3, .int v3), (4, .int v4), (5, .int v5), (6, .int v6), (7, .int v7), (8, .int v8)] → okP (f_X7_goes_B208 v1 v3 v4 v5 v6 v7 v8 o_level o_noRings o_noTones o_noFuel o_sets o_ringFar o_ringTone o_code o_cellAt o_courseAt o_paceAt o_turnsAt o_slowAt o_fuelAt o_ringAt) post → W p l e (headSpec wsX7_goes rm_X7_goes).room s m ([.ref h_o] : List Value).toArray below meth c H locs 0 0 Q (F0 m 208 ls []) := by
    intro v1 v3 v4 v5 v6 v7 v8 o_cellAt o_courseAt o_paceAt o_turnsAt o_slowAt o_fuelAt o_ringAt H locs hP hD hS ls hl hw
    unfold f_X7_goes_B208 at hw
    refine lv_aload_n hx hb dX7_goes_208 rfl (lv_at hl 0 rfl) ?_
    refine va_get (D := (dC, dI)) (ci := 7) (v := .ref a_o_courseAt) (C := RX7) (T := TX7) (N := 42) hx hb hts hi7 hown hK hP 0 rfl rfl 15 (by decide) hq0 (fun _ h9 => h9) rfl dX7_goes_209 ?_
    refine lv_iload_n hx hb dX7_goes_212 rfl (lv_at hl 1 rfl) ?_
    refine lv_iload hx hb dX7_goes_213 (lv_at hl 4 rfl) ?_
    obtain ⟨h_1, hw⟩ := okC hw
    refine va_iast (i := v1) (x := v5) hx hb hK hP hD hS 6 0 rfl rfl h_1 dX7_goes_215 (fun H locs hP hD hS => ?_)
    have hP : va_P (dC, dI) vwCl (W_X7_goes cyI cyJ cyO h_o a_o_sets a_o_ringFar a_o_ringTone a_o_currents a_o_warmths a_o_depths a_o_tape a_o_readFar a_o_readTone a_o_readSea a_o_code a_o_cellAt a_o_courseAt a_o_paceAt a_o_turnsAt a_o_slowAt a_o_fuelAt a_o_ringAt a_o_pieceParts a_o_dragCell a_o_dragBy a_o_sums a_o_shares a_o_keptFar a_o_image a_o_lanes a_o_sizes a_o_items a_o_movedItems o_taped o_at o_wrong o_level o_noRings o_noTones o_noFuel o_pieces o_drags o_all o_noPieces o_noDrags o_kept o_sets o_ringFar o_ringTone o_code o_cellAt (upd o_courseAt v1.toNatClampNeg v5) o_paceAt o_turnsAt o_slowAt o_fuelAt o_ringAt) H := hP
    have hD : va_D A (W_X7_goes cyI cyJ cyO h_o a_o_sets a_o_ringFar a_o_ringTone a_o_currents a_o_warmths a_o_depths a_o_tape a_o_readFar a_o_readTone a_o_readSea a_o_code a_o_cellAt a_o_courseAt a_o_paceAt a_o_turnsAt a_o_slowAt a_o_fuelAt a_o_ringAt a_o_pieceParts a_o_dragCell a_o_dragBy a_o_sums a_o_shares a_o_keptFar a_o_image a_o_lanes a_o_sizes a_o_items a_o_movedItems o_taped o_at o_wrong o_level o_noRings o_noTones o_noFuel o_pieces o_drags o_all o_noPieces o_noDrags o_kept o_sets o_ringFar o_ringTone o_code o_cellAt (upd o_courseAt v1.toNatClampNeg v5) o_paceAt o_turnsAt o_slowAt o_fuelAt o_ringAt) := hD
    refine lv_aload_n hx hb dX7_goes_216 rfl (lv_at hl 0 rfl) ?_
    refine va_get (D := (dC, dI)) (ci := 7) (v := .ref a_o_paceAt) (C := RX7) (T := TX7) (N := 42) hx hb hts hi7 hown hK hP 0 rfl rfl 16 (by decide) hq2 (fun _ h9 => h9) rfl dX7_goes_217 ?_
    refine lv_iload_n hx hb dX7_goes_220 rfl (lv_at hl 1 rfl) ?_
    refine lv_iload hx hb dX7_goes_221 (lv_at hl 5 rfl) ?_
    obtain ⟨h_2, hw⟩ := okC hw
    refine va_iast (i := v1) (x := v6) hx hb hK hP hD hS 7 0 rfl rfl h_2 dX7_goes_223 (fun H locs hP hD hS => ?_)
    have hP : va_P (dC, dI) vwCl (W_X7_goes cyI cyJ cyO h_o a_o_sets a_o_ringFar a_o_ringTone a_o_currents a_o_warmths a_o_depths a_o_tape a_o_readFar a_o_readTone a_o_readSea a_o_code a_o_cellAt a_o_courseAt a_o_paceAt a_o_turnsAt a_o_slowAt a_o_fuelAt a_o_ringAt a_o_pieceParts a_o_dragCell a_o_dragBy a_o_sums a_o_shares a_o_keptFar a_o_image a_o_lanes a_o_sizes a_o_items a_o_movedItems o_taped o_at o_wrong o_level o_noRings o_noTones o_noFuel o_pieces o_drags o_all o_noPieces o_noDrags o_kept o_sets o_ringFar o_ringTone o_code o_cellAt (upd o_courseAt v1.toNatClampNeg v5) (upd o_paceAt v1.toNatClampNeg v6) o_turnsAt o_slowAt o_fuelAt o_ringAt) H := hP
    have hD : va_D A (W_X7_goes cyI cyJ cyO h_o a_o_sets a_o_ringFar a_o_ringTone a_o_currents a_o_warmths a_o_depths a_o_tape a_o_readFar a_o_readTone a_o_readSea a_o_code a_o_cellAt a_o_courseAt a_o_paceAt a_o_turnsAt a_o_slowAt a_o_fuelAt a_o_ringAt a_o_pieceParts a_o_dragCell a_o_dragBy a_o_sums a_o_shares a_o_keptFar a_o_image a_o_lanes a_o_sizes a_o_items a_o_movedItems o_taped o_at o_wrong o_level o_noRings o_noTones o_noFuel o_pieces o_drags o_all o_noPieces o_noDrags o_kept o_sets o_ringFar o_ringTone o_code o_cellAt (upd o_courseAt v1.toNatClampNeg v5) (upd o_paceAt v1.toNatClampNeg v6) o_turnsAt o_slowAt o_fuelAt o_ringAt) := hD
    refine lv_aload_n hx hb dX7_goes_224 rfl (lv_at hl 0 rfl) ?_
    refine va_get (D := (dC, dI)) (ci := 7) (v := .ref a_o_cellAt) (C := RX7) (T := TX7) (N := 42) hx hb hts hi7 hown hK hP 0 rfl rfl 14 (by decide) hq3 (fun _ h9 => h9) rfl dX7_goes_225 ?_
    refine lv_iload_n hx hb dX7_goes_228 rfl (lv_at hl 1 rfl) ?_
    refine lv_iconst (v := 1) hx hb dX7_goes_229 (by decide) ?_
    refine lv_iadd hx hb dX7_goes_230 ?_
    refine lv_iload hx hb dX7_goes_231 (lv_at hl 7 rfl) ?_
    obtain ⟨h_3, hw⟩ := okC hw
    refine va_iast (i := v1 + 1) (x := v8) hx hb hK hP hD hS 5 0 rfl rfl h_3 dX7_goes_233 (fun H locs hP hD hS => ?_)
    have hP : va_P (dC, dI) vwCl (W_X7_goes cyI cyJ cyO h_o a_o_sets a_o_ringFar a_o_ringTone a_o_currents a_o_warmths a_o_depths a_o_tape a_o_readFar a_o_readTone a_o_readSea a_o_code a_o_cellAt a_o_courseAt a_o_paceAt a_o_turnsAt a_o_slowAt a_o_fuelAt a_o_ringAt a_o_pieceParts a_o_dragCell a_o_dragBy a_o_sums a_o_shares a_o_keptFar a_o_image a_o_lanes a_o_sizes a_o_items a_o_movedItems o_taped o_at o_wrong o_level o_noRings o_noTones o_noFuel o_pieces o_drags o_all o_noPieces o_noDrags o_kept o_sets o_ringFar o_ringTone o_code (upd o_cellAt (v1 + 1).toNatClampNeg v8) (upd o_courseAt v1.toNatClampNeg v5) (upd o_paceAt v1.toNatClampNeg v6) o_turnsAt o_slowAt o_fuelAt o_ringAt) H := hP
    have hD : va_D A (W_X7_goes cyI cyJ cyO h_o a_o_sets a_o_ringFar a_o_ringTone a_o_currents a_o_warmths a_o_depths a_o_tape a_o_readFar a_o_readTone a_o_readSea a_o_code a_o_cellAt a_o_courseAt a_o_paceAt a_o_turnsAt a_o_slowAt a_o_fuelAt a_o_ringAt a_o_pieceParts a_o_dragCell a_o_dragBy a_o_sums a_o_shares a_o_keptFar a_o_image a_o_lanes a_o_sizes a_o_items a_o_movedItems o_taped o_at o_wrong o_level o_noRings o_noTones o_noFuel o_pieces o_drags o_all o_noPieces o_noDrags o_kept o_sets o_ringFar o_ringTone o_code (upd o_cellAt (v1 + 1).toNatClampNeg v8) (upd o_courseAt v1.toNatClampNeg v5) (upd o_paceAt v1.toNatClampNeg v6) o_turnsAt o_slowAt o_fuelAt o_ringAt) := hD
    refine lv_aload_n hx hb dX7_goes_234 rfl (lv_at hl 0 rfl) ?_
    refine va_get (D := (dC, dI)) (ci := 7) (v := .ref a_o_turnsAt) (C := RX7) (T := TX7) (N := 42) hx hb hts hi7 hown hK hP 0 rfl rfl 17 (by decide) hq4 (fun _ h9 => h9) rfl dX7_goes_235 ?_
    refine lv_iload_n hx hb dX7_goes_238 rfl (lv_at hl 1 rfl) ?_
    refine lv_iconst (v := 1) hx hb dX7_goes_239 (by decide) ?_
    refine lv_iadd hx hb dX7_goes_240 ?_
    refine lv_iload_n hx hb dX7_goes_241 rfl (lv_at hl 2 rfl) ?_
    obtain ⟨h_4, hw⟩ := okC hw
    refine va_iast (i := v1 + 1) (x := v3) hx hb hK hP hD hS 8 0 rfl rfl h_4 dX7_goes_242 (fun H locs hP hD hS => ?_)
    have hP : va_P (dC, dI) vwCl (W_X7_goes cyI cyJ cyO h_o a_o_sets a_o_ringFar a_o_ringTone a_o_currents a_o_warmths a_o_depths a_o_tape a_o_readFar a_o_readTone a_o_readSea a_o_code a_o_cellAt a_o_courseAt a_o_paceAt a_o_turnsAt a_o_slowAt a_o_fuelAt a_o_ringAt a_o_pieceParts a_o_dragCell a_o_dragBy a_o_sums a_o_shares a_o_keptFar a_o_image a_o_lanes a_o_sizes a_o_items a_o_movedItems o_taped o_at o_wrong o_level o_noRings o_noTones o_noFuel o_pieces o_drags o_all o_noPieces o_noDrags o_kept o_sets o_ringFar o_ringTone o_code (upd o_cellAt (v1 + 1).toNatClampNeg v8) (upd o_courseAt v1.toNatClampNeg v5) (upd o_paceAt v1.toNatClampNeg v6) (upd o_turnsAt (v1 + 1).toNatClampNeg v3) o_slowAt o_fuelAt o_ringAt) H := hP
    have hD : va_D A (W_X7_goes cyI cyJ cyO h_o a_o_sets a_o_ringFar a_o_ringTone a_o_currents a_o_warmths a_o_depths a_o_tape a_o_readFar a_o_readTone a_o_readSea a_o_code a_o_cellAt a_o_courseAt a_o_paceAt a_o_turnsAt a_o_slowAt a_o_fuelAt a_o_ringAt a_o_pieceParts a_o_dragCell a_o_dragBy a_o_sums a_o_shares a_o_keptFar a_o_image a_o_lanes a_o_sizes a_o_items a_o_movedItems o_taped o_at o_wrong o_level o_noRings o_noTones o_noFuel o_pieces o_drags o_all o_noPieces o_noDrags o_kept o_sets o_ringFar o_ringTone o_code (upd o_cellAt (v1 + 1).toNatClampNeg v8) (upd o_courseAt v1.toNatClampNeg v5) (upd o_paceAt v1.toNatClampNeg v6) (upd o_turnsAt (v1 + 1).toNatClampNeg v3) o_slowAt o_fuelAt o_ringAt) := hD
    refine lv_aload_n hx hb dX7_goes_243 rfl (lv_at hl 0 rfl) ?_
    refine va_get (D := (dC, dI)) (ci := 7) (v := .ref a_o_slowAt) (C := RX7) (T := TX7) (N := 42) hx hb hts hi7 hown hK hP 0 rfl rfl 18 (by decide) hq5 (fun _ h9 => h9) rfl dX7_goes_244 ?_
    refine lv_iload_n hx hb dX7_goes_247 rfl (lv_at hl 1 rfl) ?_
    refine lv_iconst (v := 1) hx hb dX7_goes_248 (by decide) ?_
    refine lv_iadd hx hb dX7_goes_249 ?_
    refine lv_iload hx hb dX7_goes_250 (lv_at hl 3 rfl) ?_
    obtain ⟨h_5, hw⟩ := okC hw
    refine va_iast (i := v1 + 1) (x := v4) hx hb hK hP hD hS 9 0 rfl rfl h_5 dX7_goes_252 (fun H locs hP hD hS => ?_)
    have hP : va_P (dC, dI) vwCl (W_X7_goes cyI cyJ cyO h_o a_o_sets a_o_ringFar a_o_ringTone a_o_currents a_o_warmths a_o_depths a_o_tape a_o_readFar a_o_readTone a_o_readSea a_o_code a_o_cellAt a_o_courseAt a_o_paceAt a_o_turnsAt a_o_slowAt a_o_fuelAt a_o_ringAt a_o_pieceParts a_o_dragCell a_o_dragBy a_o_sums a_o_shares a_o_keptFar a_o_image a_o_lanes a_o_sizes a_o_items a_o_movedItems o_taped o_at o_wrong o_level o_noRings o_noTones o_noFuel o_pieces o_drags o_all o_noPieces o_noDrags o_kept o_sets o_ringFar o_ringTone o_code (upd o_cellAt (v1 + 1).toNatClampNeg v8) (upd o_courseAt v1.toNatClampNeg v5) (upd o_paceAt v1.toNatClampNeg v6) (upd o_turnsAt (v1 + 1).toNatClampNeg v3) (upd o_slowAt (v1 + 1).toNatClampNeg v4) o_fuelAt o_ringAt) H := hP
    have hD : va_D A (W_X7_goes cyI cyJ cyO h_o a_o_sets a_o_ringFar a_o_ringTone a_o_currents a_o_warmths a_o_depths a_o_tape a_o_readFar a_o_readTone a_o_readSea a_o_code a_o_cellAt a_o_courseAt a_o_paceAt a_o_turnsAt a_o_slowAt a_o_fuelAt a_o_ringAt a_o_pieceParts a_o_dragCell a_o_dragBy a_o_sums a_o_shares a_o_keptFar a_o_image a_o_lanes a_o_sizes a_o_items a_o_movedItems o_taped o_at o_wrong o_level o_noRings o_noTones o_noFuel o_pieces o_drags o_all o_noPieces o_noDrags o_kept o_sets o_ringFar o_ringTone o_code (upd o_cellAt (v1 + 1).toNatClampNeg v8) (upd o_courseAt v1.toNatClampNeg v5) (upd o_paceAt v1.toNatClampNeg v6) (upd o_turnsAt (v1 + 1).toNatClampNeg v3) (upd o_slowAt (v1 + 1).toNatClampNeg v4) o_fuelAt o_ringAt) := hD
    refine lv_aload_n hx hb dX7_goes_253 rfl (lv_at hl 0 rfl) ?_
    refine va_get (D := (dC, dI)) (ci := 7) (v := .ref a_o_fuelAt) (C := RX7) (T := TX7) (N := 42) hx hb hts hi7 hown hK hP 0 rfl rfl 19 (by decide) hq6 (fun _ h9 => h9) rfl dX7_goes_254 ?_
    refine lv_iload_n hx hb dX7_goes_257 rfl (lv_at hl 1 rfl) ?_
    refine lv_iconst (v := 1) hx hb dX7_goes_258 (by decide) ?_
    refine lv_iadd hx hb dX7_goes_259 ?_
    refine lv_iload hx hb dX7_goes_260 (lv_at hl 6 rfl) ?_
    obtain ⟨h_6, hw⟩ := okC hw
    refine va_iast (i := v1 + 1) (x := v7) hx hb hK hP hD hS 10 0 rfl rfl h_6 dX7_goes_262 (fun H locs hP hD hS => ?_)
    have hP : va_P (dC, dI) vwCl (W_X7_goes cyI cyJ cyO h_o a_o_sets a_o_ringFar a_o_ringTone a_o_currents a_o_warmths a_o_depths a_o_tape a_o_readFar a_o_readTone a_o_readSea a_o_code a_o_cellAt a_o_courseAt a_o_paceAt a_o_turnsAt a_o_slowAt a_o_fuelAt a_o_ringAt a_o_pieceParts a_o_dragCell a_o_dragBy a_o_sums a_o_shares a_o_keptFar a_o_image a_o_lanes a_o_sizes a_o_items a_o_movedItems o_taped o_at o_wrong o_level o_noRings o_noTones o_noFuel o_pieces o_drags o_all o_noPieces o_noDrags o_kept o_sets o_ringFar o_ringTone o_code (upd o_cellAt (v1 + 1).toNatClampNeg v8) (upd o_courseAt v1.toNatClampNeg v5) (upd o_paceAt v1.toNatClampNeg v6) (upd o_turnsAt (v1 + 1).toNatClampNeg v3) (upd o_slowAt (v1 + 1).toNatClampNeg v4) (upd o_fuelAt (v1 + 1).toNatClampNeg v7) o_ringAt) H := hP
    have hD : va_D A (W_X7_goes cyI cyJ cyO h_o a_o_sets a_o_ringFar a_o_ringTone a_o_currents a_o_warmths a_o_depths a_o_tape a_o_readFar a_o_readTone a_o_readSea a_o_code a_o_cellAt a_o_courseAt a_o_paceAt a_o_turnsAt a_o_slowAt a_o_fuelAt a_o_ringAt a_o_pieceParts a_o_dragCell a_o_dragBy a_o_sums a_o_shares a_o_keptFar a_o_image a_o_lanes a_o_sizes a_o_items a_o_movedItems o_taped o_at o_wrong o_level o_noRings o_noTones o_noFuel o_pieces o_drags o_all o_noPieces o_noDrags o_kept o_sets o_ringFar o_ringTone o_code (upd o_cellAt (v1 + 1).toNatClampNeg v8) (upd o_courseAt v1.toNatClampNeg v5) (upd o_paceAt v1.toNatClampNeg v6) (upd o_turnsAt (v1 + 1).toNatClampNeg v3) (upd o_slowAt (v1 + 1).toNatClampNeg v4) (upd o_fuelAt (v1 + 1).toNatClampNeg v7) o_ringAt) := hD
    refine lv_aload_n hx hb dX7_goes_263 rfl (lv_at hl 0 rfl) ?_
    refine va_get (D := (dC, dI)) (ci := 7) (v := .ref a_o_ringAt) (C := RX7) (T := TX7) (N := 42) hx hb hts hi7 hown hK hP 0 rfl rfl 20 (by decide) hq7 (fun _ h9 => h9) rfl dX7_goes_264 ?_
    refine lv_iload_n hx hb dX7_goes_267 rfl (lv_at hl 1 rfl) ?_
    refine lv_iconst (v := 1) hx hb dX7_goes_268 (by decide) ?_
    refine lv_iadd hx hb dX7_goes_269 ?_
    refine lv_aload_n hx hb dX7_goes_270 rfl (lv_at hl 0 rfl) ?_
    refine va_get (D := (dC, dI)) (ci := 7) (v := .ref a_o_ringAt) (C := RX7) (T := TX7) (N := 42) hx hb hts hi7 hown hK hP 0 rfl rfl 20 (by decide) hq7 (fun _ h9 => h9) rfl dX7_goes_271 ?_
    refine lv_iload_n hx hb dX7_goes_274 rfl (lv_at hl 1 rfl) ?_
    obtain ⟨h_7, hw⟩ := okC hw
    refine va_iald (i := v1) hx hb hK hP 11 0 rfl rfl h_7 dX7_goes_275 ?_
    refine lv_aload_n hx hb dX7_goes_276 rfl (lv_at hl 0 rfl) ?_
    refine lv_iload_n hx hb dX7_goes_277 rfl (lv_at hl 1 rfl) ?_
    refine lv_iconst (v := 1) hx hb dX7_goes_278 (by decide) ?_
    refine lv_iadd hx hb dX7_goes_279 ?_
    have hPc := hP.sub (ws' := (W_X7_ringed cyI cyJ cyO h_o a_o_sets a_o_ringFar a_o_ringTone a_o_currents a_o_warmths a_o_depths a_o_tape a_o_readFar a_o_readTone a_o_readSea a_o_code a_o_cellAt a_o_courseAt a_o_paceAt a_o_turnsAt a_o_slowAt a_o_fuelAt a_o_ringAt a_o_pieceParts a_o_dragCell a_o_dragBy a_o_sums a_o_shares a_o_keptFar a_o_image a_o_lanes a_o_sizes a_o_items a_o_movedItems o_taped o_at o_wrong o_level o_noRings o_noTones o_noFuel o_pieces o_drags o_all o_noPieces o_noDrags o_kept o_sets o_ringFar o_ringTone (upd o_cellAt (v1 + 1).toNatClampNeg v8))) [0, 1, 2, 3, 5] rfl
    have hDc := hD.sub (ws' := (W_X7_ringed cyI cyJ cyO h_o a_o_sets a_o_ringFar a_o_ringTone a_o_currents a_o_warmths a_o_depths a_o_tape a_o_readFar a_o_readTone a_o_readSea a_o_code a_o_cellAt a_o_courseAt a_o_paceAt a_o_turnsAt a_o_slowAt a_o_fuelAt a_o_ringAt a_o_pieceParts a_o_dragCell a_o_dragBy a_o_sums a_o_shares a_o_keptFar a_o_image a_o_lanes a_o_sizes a_o_items a_o_movedItems o_taped o_at o_wrong o_level o_noRings o_noTones o_noFuel o_pieces o_drags o_all o_noPieces o_noDrags o_kept o_sets o_ringFar o_ringTone (upd o_cellAt (v1 + 1).toNatClampNeg v8))) [0, 1, 2, 3, 5] (by decide +kernel) rfl
    have hFc := va_free (wc := (W_X7_ringed cyI cyJ cyO h_o a_o_sets a_o_ringFar a_o_ringTone a_o_currents a_o_warmths a_o_depths a_o_tape a_o_readFar a_o_readTone a_o_readSea a_o_code a_o_cellAt a_o_courseAt a_o_paceAt a_o_turnsAt a_o_slowAt a_o_fuelAt a_o_ringAt a_o_pieceParts a_o_dragCell a_o_dragBy a_o_sums a_o_shares a_o_keptFar a_o_image a_o_lanes a_o_sizes a_o_items a_o_movedItems o_taped o_at o_wrong o_level o_noRings o_noTones o_noFuel o_pieces o_drags o_all o_noPieces o_noDrags o_kept o_sets o_ringFar o_ringTone (upd o_cellAt (v1 + 1).toNatClampNeg v8))) hD hS hA [0, 1, 2, 3, 5] rfl
    refine kc_i (wr := [(a_o_code, .inl (cyI, 7, .inl o_code)), (a_o_courseAt, .inl (cyI, 7, .inl (upd o_courseAt v1.toNatClampNeg v5))), (a_o_paceAt, .inl (cyI, 7, .inl (upd o_paceAt v1.toNatClampNeg v6))), (a_o_turnsAt, .inl (cyI, 7, .inl (upd o_turnsAt (v1 + 1).toNatClampNeg v3))), (a_o_slowAt, .inl (cyI, 7, .inl (upd o_slowAt (v1 + 1).toNatClampNeg v4))), (a_o_fuelAt, .inl (cyI, 7, .inl (upd o_fuelAt (v1 + 1).toNatClampNeg v7))), (a_o_ringAt, .inl (cyI, 7, .inl o_ringAt))]) (va_runV (As := [.int (v1 + 1)]) (rest := [.int (o_ringAt v1.toNatClampNeg), .int (v1 + 1), .ref a_o_ringAt]) ⟨hx, hb, hml, hown, hts⟩ (c_X7_ringed l dC dI cyI cyJ cyO H.size h_o a_o_sets a_o_ringFar a_o_ringTone a_o_currents a_o_warmths a_o_depths a_o_tape a_o_readFar a_o_readTone a_o_readSea a_o_code a_o_cellAt a_o_courseAt a_o_paceAt a_o_turnsAt a_o_slowAt a_o_fuelAt a_o_ringAt a_o_pieceParts a_o_dragCell a_o_dragBy a_o_sums a_o_shares a_o_keptFar a_o_image a_o_lanes a_o_sizes a_o_items a_o_movedItems o_taped o_at o_wrong o_level o_noRings o_noTones o_noFuel o_pieces o_drags o_all o_noPieces o_noDrags o_kept o_sets o_ringFar o_ringTone (upd o_cellAt (v1 + 1).toNatClampNeg v8) (v1 + 1) _ (okb1 hw)) (cwV 1 hts (gdV (fun w h => List.mem_cons_of_mem _ h) q_921 q_923 qs_32 q_8 q_924) rfl rfl rfl (by decide +kernel) ⟨Nat.le_of_ble_eq_true rfl, Nat.le_of_ble_eq_true rfl⟩) ⟨(kpre zN_ok hK hPc hDc trivial hS hFc).1, va_recv hK hP (ci := 7) (q0 := 0) rfl rfl, (kpre zN_ok hK hPc hDc trivial hS hFc).2⟩ rfl rfl hl.1 rfl (lv_room (Nat.le_of_ble_eq_true rfl)) dX7_goes_280 ⟨Nat.le_of_ble_eq_true rfl, Nat.le_of_ble_eq_true rfl⟩) hP hD hS hFc [0, 1, 2, 3, 5] [4, 6, 7, 8, 9, 10, 11] rfl rfl (by decide +kernel) (by decide +kernel) (fun r_8 u H locs hw hP hD hS => ?_)
    try dsimp only at hw
    have hP : va_P (dC, dI) vwCl (W_X7_goes cyI cyJ cyO h_o a_o_sets a_o_ringFar a_o_ringTone a_o_currents a_o_warmths a_o_depths a_o_tape a_o_readFar a_o_readTone a_o_readSea a_o_code a_o_cellAt a_o_courseAt a_o_paceAt a_o_turnsAt a_o_slowAt a_o_fuelAt a_o_ringAt a_o_pieceParts a_o_dragCell a_o_dragBy a_o_sums a_o_shares a_o_keptFar a_o_image a_o_lanes a_o_sizes a_o_items a_o_movedItems o_taped o_at o_wrong o_level o_noRings o_noTones o_noFuel o_pieces o_drags o_all o_noPieces o_noDrags o_kept o_sets o_ringFar o_ringTone o_code (upd o_cellAt (v1 + 1).toNatClampNeg v8) (upd o_courseAt v1.toNatClampNeg v5) (upd o_paceAt v1.toNatClampNeg v6) (upd o_turnsAt (v1 + 1).toNatClampNeg v3) (upd o_slowAt (v1 + 1).toNatClampNeg v4) (upd o_fuelAt (v1 + 1).toNatClampNeg v7) o_ringAt) H := hP.sub [7, 8, 9, 10, 0, 11, 1, 2, 3, 4, 5, 6] rfl
    have hD : va_D A (W_X7_goes cyI cyJ cyO h_o a_o_sets a_o_ringFar a_o_ringTone a_o_currents a_o_warmths a_o_depths a_o_tape a_o_readFar a_o_readTone a_o_readSea a_o_code a_o_cellAt a_o_courseAt a_o_paceAt a_o_turnsAt a_o_slowAt a_o_fuelAt a_o_ringAt a_o_pieceParts a_o_dragCell a_o_dragBy a_o_sums a_o_shares a_o_keptFar a_o_image a_o_lanes a_o_sizes a_o_items a_o_movedItems o_taped o_at o_wrong o_level o_noRings o_noTones o_noFuel o_pieces o_drags o_all o_noPieces o_noDrags o_kept o_sets o_ringFar o_ringTone o_code (upd o_cellAt (v1 + 1).toNatClampNeg v8) (upd o_courseAt v1.toNatClampNeg v5) (upd o_paceAt v1.toNatClampNeg v6) (upd o_turnsAt (v1 + 1).toNatClampNeg v3) (upd o_slowAt (v1 + 1).toNatClampNeg v4) (upd o_fuelAt (v1 + 1).toNatClampNeg v7) o_ringAt) := hD.sub [7, 8, 9, 10, 0, 11, 1, 2, 3, 4, 5, 6] (by decide +kernel) rfl
    clear hPc hDc hFc
    refine lv_imul hx hb dX7_goes_283 ?_
    refine lv_topi (fun x_9 ex_9 => ?_)
    replace hw := okN ex_9 hw
    clear ex_9
    obtain ⟨h_10, hw⟩ := okC hw
    refine va_iast (i := v1 + 1) (x := x_9) hx hb hK hP hD hS 11 0 rfl rfl h_10 dX7_goes_284 (fun H locs hP hD hS => ?_)
    have hP : va_P (dC, dI) vwCl (W_X7_goes cyI cyJ cyO h_o a_o_sets a_o_ringFar a_o_ringTone a_o_currents a_o_warmths a_o_depths a_o_tape a_o_readFar a_o_readTone a_o_readSea a_o_code a_o_cellAt a_o_courseAt a_o_paceAt a_o_turnsAt a_o_slowAt a_o_fuelAt a_o_ringAt a_o_pieceParts a_o_dragCell a_o_dragBy a_o_sums a_o_shares a_o_keptFar a_o_image a_o_lanes a_o_sizes a_o_items a_o_movedItems o_taped o_at o_wrong o_level o_noRings o_noTones o_noFuel o_pieces o_drags o_all o_noPieces o_noDrags o_kept o_sets o_ringFar o_ringTone o_code (upd o_cellAt (v1 + 1).toNatClampNeg v8) (upd o_courseAt v1.toNatClampNeg v5) (upd o_paceAt v1.toNatClampNeg v6) (upd o_turnsAt (v1 + 1).toNatClampNeg v3) (upd o_slowAt (v1 + 1).toNatClampNeg v4) (upd o_fuelAt (v1 + 1).toNatClampNeg v7) (upd o_ringAt (v1 + 1).toNatClampNeg x_9)) H := hP
    have hD : va_D A (W_X7_goes cyI cyJ cyO h_o a_o_sets a_o_ringFar a_o_ringTone a_o_currents a_o_warmths a_o_depths a_o_tape a_o_readFar a_o_readTone a_o_readSea a_o_code a_o_cellAt a_o_courseAt a_o_paceAt a_o_turnsAt a_o_slowAt a_o_fuelAt a_o_ringAt a_o_pieceParts a_o_dragCell a_o_dragBy a_o_sums a_o_shares a_o_keptFar a_o_image a_o_lanes a_o_sizes a_o_items a_o_movedItems o_taped o_at o_wrong o_level o_noRings o_noTones o_noFuel o_pieces o_drags o_all o_noPieces o_noDrags o_kept o_sets o_ringFar o_ringTone o_code (upd o_cellAt (v1 + 1).toNatClampNeg v8) (upd o_courseAt v1.toNatClampNeg v5) (upd o_paceAt v1.toNatClampNeg v6) (upd o_turnsAt (v1 + 1).toNatClampNeg v3) (upd o_slowAt (v1 + 1).toNatClampNeg v4) (upd o_fuelAt (v1 + 1).toNatClampNeg v7) (upd o_ringAt (v1 + 1).toNatClampNeg x_9)) := hD
    refine lv_aload_n hx hb dX7_goes_285 rfl (lv_at hl 0 rfl) ?_
    refine va_get (D := (dC, dI)) (ci := 7) (v := .ref a_o_ringAt) (C := RX7) (T := TX7) (N := 42) hx hb hts hi7 hown hK hP 0 rfl rfl 20 (by decide) hq7 (fun _ h9 => h9) rfl dX7_goes_286 ?_
    refine lv_iload_n hx hb dX7_goes_289 rfl (lv_at hl 1 rfl) ?_
    refine lv_iconst (v := 1) hx hb dX7_goes_290 (by decide) ?_
    refine lv_iadd hx hb dX7_goes_291 ?_
    obtain ⟨h_11, hw⟩ := okC hw
    refine va_iald (i := v1 + 1) hx hb hK hP 11 0 rfl rfl h_11 dX7_goes_292 ?_
    refine lv_if_le (tgt := 300) hx hb dX7_goes_293 (by decide) (fun c_12 => ?_) (fun c_12 => ?_)
    · replace hw := okT hw c_12
      clear c_12
      refine lv_iconst (v := 0) hx hb dX7_goes_300 (by decide) ?_
      rw [hQ]
      exact W.zret (v := 0) hx hb hr (by decide) (fun t ht hW => ⟨⟨0, (upd o_cellAt (v1 + 1).toNatClampNeg v8, upd o_courseAt v1.toNatClampNeg v5, upd o_paceAt v1.toNatClampNeg v6, upd o_turnsAt (v1 + 1).toNatClampNeg v3, upd o_slowAt (v1 + 1).toNatClampNeg v4, upd o_fuelAt (v1 + 1).toNatClampNeg v7, upd o_ringAt (v1 + 1).toNatClampNeg x_9), rfl, okS hw, by rw [ht]; exact hP, va_K.moved hW.alike hK, hD⟩, hS.F ht⟩) hS.2.2 dX7_goes_301
    · replace hw := okF hw c_12
      clear c_12
      refine lv_iconst (v := 1) hx hb dX7_goes_296 (by decide) ?_
      refine lv_goto (tgt := 301) hx hb dX7_goes_297 (by decide) ?_
      rw [hQ]
      exact W.zret (v := 1) hx hb hr (by decide) (fun t ht hW => ⟨⟨1, (upd o_cellAt (v1 + 1).toNatClampNeg v8, upd o_courseAt v1.toNatClampNeg v5, upd o_paceAt v1.toNatClampNeg v6, upd o_turnsAt (v1 + 1).toNatClampNeg v3, upd o_slowAt (v1 + 1).toNatClampNeg v4, upd o_fuelAt (v1 + 1).toNatClampNeg v7, upd o_ringAt (v1 + 1).toNatClampNeg x_9), rfl, okS hw, by rw [ht]; exact hP, va_K.moved hW.alike hK, hD⟩, hS.F ht⟩) hS.2.2 dX7_goes_301
  have w125 : ∀ (v1 : Int32) (v3 : Int32) (v4 : Int32) (v5 : Int32) (v6 : Int32) (o_cellAt : Nat → Int32) (o_courseAt : Nat → Int32) (o_paceAt : Nat → Int32) (o_turnsAt : Nat → Int32) (o_slowAt : Nat → Int32) (o_fuelAt : Nat → Int32) (o_ringAt : Nat → Int32) (H : Heap) (locs : List Loc), va_P (dC, dI) vwCl (W_X7_goes cyI cyJ cyO h_o a_o_sets a_o_ringFar a_o_ringTone a_o_currents a_o_warmths a_o_depths a_o_tape a_o_readFar a_o_readTone a_o_readSea a_o_code a_o_cellAt a_o_courseAt a_o_paceAt a_o_turnsAt a_o_slowAt a_o_fuelAt a_o_ringAt a_o_pieceParts a_o_dragCell a_o_dragBy a_o_sums a_o_shares a_o_keptFar a_o_image a_o_lanes a_o_sizes a_o_items a_o_movedItems o_taped o_at o_wrong o_level o_noRings o_noTones o_noFuel o_pieces o_drags o_all o_noPieces o_noDrags o_kept o_sets o_ringFar o_ringTone o_code o_cellAt o_courseAt o_paceAt o_turnsAt o_slowAt o_fuelAt o_ringAt) H → va_D A (W_X7_goes cyI cyJ cyO h_o a_o_sets a_o_ringFar a_o_ringTone a_o_currents a_o_warmths a_o_depths a_o_tape a_o_readFar a_o_readTone a_o_readSea a_o_code a_o_cellAt a_o_courseAt a_o_paceAt a_o_turnsAt a_o_slowAt a_o_fuelAt a_o_ringAt a_o_pieceParts a_o_dragCell a_o_dragBy a_o_sums a_o_shares a_o_keptFar a_o_image a_o_lanes a_o_sizes a_o_items a_o_movedItems o_taped o_at o_wrong o_level o_noRings o_noTones o_noFuel o_pieces o_drags o_all o_noPieces o_noDrags o_kept o_sets o_ringFar o_ringTone o_code o_cellAt o_courseAt o_paceAt o_turnsAt o_slowAt o_fuelAt o_ringAt) → va_S A s.heap H locs → ∀ (ls : Array Slot), lv_has ls 9 [(0, .ref h_o), (1, .int v1), (3, .int v3), (4, .int v4), (5, .int v5), (6, .int v6)] → okP (f_X7_goes_B125 v1 v3 v4 v5 v6 o_level o_noRings o_noTones o_noFuel o_sets o_ringFar o_ringTone o_code o_cellAt o_courseAt o_paceAt o_turnsAt o_slowAt o_fuelAt o_ringAt) post → W p l e (headSpec wsX7_goes rm_X7_goes).room s m ([.ref h_o] : List Value).toArray below meth c H locs 0 0 Q (F0 m 125 ls []) := by
    intro v1 v3 v4 v5 v6 o_cellAt o_courseAt o_paceAt o_turnsAt o_slowAt o_fuelAt o_ringAt H locs hP hD hS ls hl hw
    unfold f_X7_goes_B125 at hw
    refine lv_iload_n hx hb dX7_goes_125 rfl (lv_at hl 2 rfl) ?_
    refine lv_aload_n hx hb dX7_goes_126 rfl (lv_at hl 0 rfl) ?_
    refine va_get (D := (dC, dI)) (ci := 7) (v := .ref a_o_sets) (C := RX7) (T := TX7) (N := 42) hx hb hts hi7 hown hK hP 0 rfl rfl 0 (by decide) hq8 (fun _ h9 => h9) rfl dX7_goes_127 ?_
    refine lv_iconst (v := 3) hx hb dX7_goes_130 (by decide) ?_
    refine va_iald (i := 3) hx hb hK hP 1 0 rfl rfl (show ¬ _ by decide) dX7_goes_131 ?_
    refine lv_icmp_gt (tgt := 152) hx hb dX7_goes_132 (by decide) (fun c_13 => ?_) (fun c_13 => ?_)
    · replace hw := okT hw c_13
      clear c_13
      refine lv_iconst (v := 0) hx hb dX7_goes_152 (by decide) ?_
      rw [hQ]
      exact W.zret (v := 0) hx hb hr (by decide) (fun t ht hW => ⟨⟨0, (o_cellAt, o_courseAt, o_paceAt, o_turnsAt, o_slowAt, o_fuelAt, o_ringAt), rfl, okS hw, by rw [ht]; exact hP, va_K.moved hW.alike hK, hD⟩, hS.F ht⟩) hS.2.2 dX7_goes_153
    · replace hw := okF hw c_13
      clear c_13
      refine lv_iload hx hb dX7_goes_135 (lv_at hl 3 rfl) ?_
      refine lv_aload_n hx hb dX7_goes_137 rfl (lv_at hl 0 rfl) ?_
      refine va_get (D := (dC, dI)) (ci := 7) (v := .ref a_o_sets) (C := RX7) (T := TX7) (N := 42) hx hb hts hi7 hown hK hP 0 rfl rfl 0 (by decide) hq8 (fun _ h9 => h9) rfl dX7_goes_138 ?_
      refine lv_iconst (v := 4) hx hb dX7_goes_141 (by decide) ?_
      refine va_iald (i := 4) hx hb hK hP 1 0 rfl rfl (show ¬ _ by decide) dX7_goes_142 ?_
      refine lv_icmp_gt (tgt := 152) hx hb dX7_goes_143 (by decide) (fun c_14 => ?_) (fun c_14 => ?_)
      · replace hw := okT hw c_14
        clear c_14
        refine lv_iconst (v := 0) hx hb dX7_goes_152 (by decide) ?_
        rw [hQ]
        exact W.zret (v := 0) hx hb hr (by decide) (fun t ht hW => ⟨⟨0, (o_cellAt, o_courseAt, o_paceAt, o_turnsAt, o_slowAt, o_fuelAt, o_ringAt), rfl, okS hw, by rw [ht]; exact hP, va_K.moved hW.alike hK, hD⟩, hS.F ht⟩) hS.2.2 dX7_goes_153
      · replace hw := okF hw c_14
        clear c_14
        refine lv_iload hx hb dX7_goes_146 (lv_at hl 5 rfl) ?_
        refine lv_iconst (v := 1) hx hb dX7_goes_148 (by decide) ?_
        refine lv_icmp_ge (tgt := 154) hx hb dX7_goes_149 (by decide) (fun c_15 => ?_) (fun c_15 => ?_)
        · replace hw := okT hw c_15
          clear c_15
          refine lv_aload_n hx hb dX7_goes_154 rfl (lv_at hl 0 rfl) ?_
          refine va_get (D := (dC, dI)) (ci := 7) (v := .ref a_o_fuelAt) (C := RX7) (T := TX7) (N := 42) hx hb hts hi7 hown hK hP 0 rfl rfl 19 (by decide) hq6 (fun _ h9 => h9) rfl dX7_goes_155 ?_
          refine lv_iload_n hx hb dX7_goes_158 rfl (lv_at hl 1 rfl) ?_
          obtain ⟨h_16, hw⟩ := okC hw
          refine va_iald (i := v1) hx hb hK hP 10 0 rfl rfl h_16 dX7_goes_159 ?_
          refine lv_iload hx hb dX7_goes_160 (lv_at hl 5 rfl) ?_
          refine lv_iload hx hb dX7_goes_162 (lv_at hl 5 rfl) ?_
          refine lv_imul hx hb dX7_goes_164 ?_
          refine lv_iadd hx hb dX7_goes_165 ?_
          refine lv_topi (fun x_17 ex_17 => ?_)
          replace hw := okN ex_17 hw
          clear ex_17
          refine lv_istore (lv' := [(7, .int x_17), (0, .ref h_o), (1, .int v1), (3, .int v3), (4, .int v4), (5, .int v5), (6, .int v6)]) hx hb dX7_goes_166 hl (by decide) rfl (fun ls hl => ?_)
          refine lv_aload_n hx hb dX7_goes_168 rfl (lv_at hl 1 rfl) ?_
          refine va_get (D := (dC, dI)) (ci := 7) (v := .ref a_o_cellAt) (C := RX7) (T := TX7) (N := 42) hx hb hts hi7 hown hK hP 0 rfl rfl 14 (by decide) hq3 (fun _ h9 => h9) rfl dX7_goes_169 ?_
          refine lv_iload_n hx hb dX7_goes_172 rfl (lv_at hl 2 rfl) ?_
          obtain ⟨h_18, hw⟩ := okC hw
          refine va_iald (i := v1) hx hb hK hP 5 0 rfl rfl h_18 dX7_goes_173 ?_
          refine lv_iload hx hb dX7_goes_174 (lv_at hl 5 rfl) ?_
          refine lv_iload hx hb dX7_goes_176 (lv_at hl 6 rfl) ?_
          have hFc := va_free (wc := []) hD hS hA [] rfl
          refine kp_i (va_runS (As := [.int (o_cellAt v1.toNatClampNeg), .int v5, .int v6]) (rest := []) ⟨hx, hb, hml, hown, hts⟩ (c_X7_gone l dC dI cyI cyJ cyO H.size (o_cellAt v1.toNatClampNeg) v5 v6 _ (okb1 hw)) (va_cwS 3 hts (gdS (fun w h => List.mem_cons_of_mem _ h) q_912 q_913 q_8 q_914) rfl rfl rfl (by decide +kernel) ⟨Nat.le_of_ble_eq_true rfl, Nat.le_of_ble_eq_true rfl⟩) (kpre zN_ok hK va_P0 va_D0 trivial hS hFc) rfl rfl hl.1 rfl (lv_room (Nat.le_of_ble_eq_true rfl)) dX7_goes_178 ⟨Nat.le_of_ble_eq_true rfl, Nat.le_of_ble_eq_true rfl⟩) hP hD hS hFc (fun r_19 H locs hw hP hS => ?_)
          try dsimp only at hw
          clear hFc
          refine lv_istore (lv' := [(8, .int r_19), (7, .int x_17), (0, .ref h_o), (1, .int v1), (3, .int v3), (4, .int v4), (5, .int v5), (6, .int v6)]) hx hb dX7_goes_181 hl (by decide) rfl (fun ls hl => ?_)
          refine lv_iload hx hb dX7_goes_183 (lv_at hl 0 rfl) ?_
          refine lv_if_lt (tgt := 206) hx hb dX7_goes_185 (by decide) (fun c_20 => ?_) (fun c_20 => ?_)
          · replace hw := okT hw c_20
            clear c_20
            refine lv_iconst (v := 0) hx hb dX7_goes_206 (by decide) ?_
            rw [hQ]
            exact W.zret (v := 0) hx hb hr (by decide) (fun t ht hW => ⟨⟨0, (o_cellAt, o_courseAt, o_paceAt, o_turnsAt, o_slowAt, o_fuelAt, o_ringAt), rfl, okS hw, by rw [ht]; exact hP, va_K.moved hW.alike hK, hD⟩, hS.F ht⟩) hS.2.2 dX7_goes_207
          · replace hw := okF hw c_20
            clear c_20
            refine lv_aload_n hx hb dX7_goes_188 rfl (lv_at hl 2 rfl) ?_
            refine va_get (D := (dC, dI)) (ci := 7) (v := .int o_noFuel) (C := RX7) (T := TX7) (N := 42) hx hb hts hi7 hown hK hP 0 rfl rfl 24 (by decide) hq9 (fun _ h9 => h9) rfl dX7_goes_189 ?_
            refine lv_if_ne (tgt := 208) hx hb dX7_goes_192 (by decide) (fun c_21 => ?_) (fun c_21 => ?_)
            · replace hw := okF hw c_21
              clear c_21
              exact w208 v1 v3 v4 v5 v6 x_17 r_19 o_cellAt o_courseAt o_paceAt o_turnsAt o_slowAt o_fuelAt o_ringAt _ _ hP hD hS _ (lv_sub hl [2, 3, 4, 5, 6, 7, 1, 0] rfl) hw
            · replace hw := okT hw c_21
              clear c_21
              refine lv_iload hx hb dX7_goes_195 (lv_at hl 1 rfl) ?_
              refine lv_aload_n hx hb dX7_goes_197 rfl (lv_at hl 2 rfl) ?_
              refine va_get (D := (dC, dI)) (ci := 7) (v := .ref a_o_sets) (C := RX7) (T := TX7) (N := 42) hx hb hts hi7 hown hK hP 0 rfl rfl 0 (by decide) hq8 (fun _ h9 => h9) rfl dX7_goes_198 ?_
              refine lv_iconst (v := 5) hx hb dX7_goes_201 (by decide) ?_
              refine va_iald (i := 5) hx hb hK hP 1 0 rfl rfl (show ¬ _ by decide) dX7_goes_202 ?_
              refine lv_icmp_le (tgt := 208) hx hb dX7_goes_203 (by decide) (fun c_22 => ?_) (fun c_22 => ?_)
              · replace hw := okT hw c_22
                clear c_22
                exact w208 v1 v3 v4 v5 v6 x_17 r_19 o_cellAt o_courseAt o_paceAt o_turnsAt o_slowAt o_fuelAt o_ringAt _ _ hP hD hS _ (lv_sub hl [2, 3, 4, 5, 6, 7, 1, 0] rfl) hw
              · replace hw := okF hw c_22
                clear c_22
                refine lv_iconst (v := 0) hx hb dX7_goes_206 (by decide) ?_
                rw [hQ]
                exact W.zret (v := 0) hx hb hr (by decide) (fun t ht hW => ⟨⟨0, (o_cellAt, o_courseAt, o_paceAt, o_turnsAt, o_slowAt, o_fuelAt, o_ringAt), rfl, okS hw, by rw [ht]; exact hP, va_K.moved hW.alike hK, hD⟩, hS.F ht⟩) hS.2.2 dX7_goes_207
        · replace hw := okF hw c_15
          clear c_15
          refine lv_iconst (v := 0) hx hb dX7_goes_152 (by decide) ?_
          rw [hQ]
          exact W.zret (v := 0) hx hb hr (by decide) (fun t ht hW => ⟨⟨0, (o_cellAt, o_courseAt, o_paceAt, o_turnsAt, o_slowAt, o_fuelAt, o_ringAt), rfl, okS hw, by rw [ht]; exact hP, va_K.moved hW.alike hK, hD⟩, hS.F ht⟩) hS.2.2 dX7_goes_153
  have w112 : ∀ (v1 : Int32) (v2 : Int32) (v3 : Int32) (v4 : Int32) (v5 : Int32) (v6 : Int32) (o_cellAt : Nat → Int32) (o_courseAt : Nat → Int32) (o_paceAt : Nat → Int32) (o_turnsAt : Nat → Int32) (o_slowAt : Nat → Int32) (o_fuelAt : Nat → Int32) (o_ringAt : Nat → Int32) (H : Heap) (locs : List Loc), va_P (dC, dI) vwCl (W_X7_goes cyI cyJ cyO h_o a_o_sets a_o_ringFar a_o_ringTone a_o_currents a_o_warmths a_o_depths a_o_tape a_o_readFar a_o_readTone a_o_readSea a_o_code a_o_cellAt a_o_courseAt a_o_paceAt a_o_turnsAt a_o_slowAt a_o_fuelAt a_o_ringAt a_o_pieceParts a_o_dragCell a_o_dragBy a_o_sums a_o_shares a_o_keptFar a_o_image a_o_lanes a_o_sizes a_o_items a_o_movedItems o_taped o_at o_wrong o_level o_noRings o_noTones o_noFuel o_pieces o_drags o_all o_noPieces o_noDrags o_kept o_sets o_ringFar o_ringTone o_code o_cellAt o_courseAt o_paceAt o_turnsAt o_slowAt o_fuelAt o_ringAt) H → va_D A (W_X7_goes cyI cyJ cyO h_o a_o_sets a_o_ringFar a_o_ringTone a_o_currents a_o_warmths a_o_depths a_o_tape a_o_readFar a_o_readTone a_o_readSea a_o_code a_o_cellAt a_o_courseAt a_o_paceAt a_o_turnsAt a_o_slowAt a_o_fuelAt a_o_ringAt a_o_pieceParts a_o_dragCell a_o_dragBy a_o_sums a_o_shares a_o_keptFar a_o_image a_o_lanes a_o_sizes a_o_items a_o_movedItems o_taped o_at o_wrong o_level o_noRings o_noTones o_noFuel o_pieces o_drags o_all o_noPieces o_noDrags o_kept o_sets o_ringFar o_ringTone o_code o_cellAt o_courseAt o_paceAt o_turnsAt o_slowAt o_fuelAt o_ringAt) → va_S A s.heap H locs → ∀ (ls : Array Slot), lv_has ls 9 [(0, .ref h_o), (1, .int v1), (2, .int v2), (3, .int v3), (4, .int v4), (5, .int v5), (6, .int v6)] → okP (f_X7_goes_B112 v1 v2 v3 v4 v5 v6 o_level o_noRings o_noTones o_noFuel o_sets o_ringFar o_ringTone o_code o_cellAt o_courseAt o_paceAt o_turnsAt o_slowAt o_fuelAt o_ringAt) post → W p l e (headSpec wsX7_goes rm_X7_goes).room s m ([.ref h_o] : List Value).toArray below meth c H locs 0 0 Q (F0 m 112 ls []) := by
    intro v1 v2 v3 v4 v5 v6 o_cellAt o_courseAt o_paceAt o_turnsAt o_slowAt o_fuelAt o_ringAt H locs hP hD hS ls hl hw
    unfold f_X7_goes_B112 at hw
    refine lv_iload_n hx hb dX7_goes_112 rfl (lv_at hl 2 rfl) ?_
    refine lv_iconst (v := 2) hx hb dX7_goes_113 (by decide) ?_
    refine lv_irem hx hb dX7_goes_114 (by decide) ?_
    refine lv_iconst (v := 1) hx hb dX7_goes_115 (by decide) ?_
    refine lv_icmp_ne (tgt := 125) hx hb dX7_goes_116 (by decide) (fun c_23 => ?_) (fun c_23 => ?_)
    · replace hw := okF hw c_23
      clear c_23
      exact w125 v1 v3 v4 v5 v6 o_cellAt o_courseAt o_paceAt o_turnsAt o_slowAt o_fuelAt o_ringAt _ _ hP hD hS _ (lv_sub hl [0, 1, 3, 4, 5, 6] rfl) hw
    · replace hw := okT hw c_23
      clear c_23
      obtain ⟨x_24, ex_24⟩ : ∃ y : Int32, y = v4 + 1 := ⟨_, rfl⟩
      replace hw := okN ex_24 hw
      refine lv_iinc (v := x_24) (lv' := [(4, .int x_24), (0, .ref h_o), (1, .int v1), (2, .int v2), (3, .int v3), (5, .int v5), (6, .int v6)]) hx hb dX7_goes_119 hl (k := 4) rfl (by rw [ex_24]; rfl) (by decide) rfl (fun ls hl => ?_)
      clear ex_24
      obtain ⟨x_25, ex_25⟩ : ∃ y : Int32, y = v6 + (-1) := ⟨_, rfl⟩
      replace hw := okN ex_25 hw
      refine lv_iinc (v := x_25) (lv' := [(6, .int x_25), (4, .int x_24), (0, .ref h_o), (1, .int v1), (2, .int v2), (3, .int v3), (5, .int v5)]) hx hb dX7_goes_122 hl (k := 6) rfl (by rw [ex_25]; rfl) (by decide) rfl (fun ls hl => ?_)
      clear ex_25
      exact w125 v1 v3 x_24 v5 x_25 o_cellAt o_courseAt o_paceAt o_turnsAt o_slowAt o_fuelAt o_ringAt _ _ hP hD hS _ (lv_sub hl [2, 3, 5, 1, 6, 0] rfl) hw
  have w83 : ∀ (v1 : Int32) (v2 : Int32) (v3 : Int32) (v4 : Int32) (v5 : Int32) (v6 : Int32) (y0 : Int32) (o_cellAt : Nat → Int32) (o_courseAt : Nat → Int32) (o_paceAt : Nat → Int32) (o_turnsAt : Nat → Int32) (o_slowAt : Nat → Int32) (o_fuelAt : Nat → Int32) (o_ringAt : Nat → Int32) (H : Heap) (locs : List Loc), va_P (dC, dI) vwCl (W_X7_goes cyI cyJ cyO h_o a_o_sets a_o_ringFar a_o_ringTone a_o_currents a_o_warmths a_o_depths a_o_tape a_o_readFar a_o_readTone a_o_readSea a_o_code a_o_cellAt a_o_courseAt a_o_paceAt a_o_turnsAt a_o_slowAt a_o_fuelAt a_o_ringAt a_o_pieceParts a_o_dragCell a_o_dragBy a_o_sums a_o_shares a_o_keptFar a_o_image a_o_lanes a_o_sizes a_o_items a_o_movedItems o_taped o_at o_wrong o_level o_noRings o_noTones o_noFuel o_pieces o_drags o_all o_noPieces o_noDrags o_kept o_sets o_ringFar o_ringTone o_code o_cellAt o_courseAt o_paceAt o_turnsAt o_slowAt o_fuelAt o_ringAt) H → va_D A (W_X7_goes cyI cyJ cyO h_o a_o_sets a_o_ringFar a_o_ringTone a_o_currents a_o_warmths a_o_depths a_o_tape a_o_readFar a_o_readTone a_o_readSea a_o_code a_o_cellAt a_o_courseAt a_o_paceAt a_o_turnsAt a_o_slowAt a_o_fuelAt a_o_ringAt a_o_pieceParts a_o_dragCell a_o_dragBy a_o_sums a_o_shares a_o_keptFar a_o_image a_o_lanes a_o_sizes a_o_items a_o_movedItems o_taped o_at o_wrong o_level o_noRings o_noTones o_noFuel o_pieces o_drags o_all o_noPieces o_noDrags o_kept o_sets o_ringFar o_ringTone o_code o_cellAt o_courseAt o_paceAt o_turnsAt o_slowAt o_fuelAt o_ringAt) → va_S A s.heap H locs → ∀ (ls : Array Slot), lv_has ls 9 [(0, .ref h_o), (1, .int v1), (2, .int v2), (3, .int v3), (4, .int v4), (5, .int v5), (6, .int v6)] → okP (f_X7_goes_B83 v1 v2 v3 v4 v5 v6 y0 o_level o_noRings o_noTones o_noFuel o_sets o_ringFar o_ringTone o_code o_cellAt o_courseAt o_paceAt o_turnsAt o_slowAt o_fuelAt o_ringAt) post → W p l e (headSpec wsX7_goes rm_X7_goes).room s m ([.ref h_o] : List Value).toArray below meth c H locs 0 0 Q (F0 m 83 ls [.int y0]) := by
    intro v1 v2 v3 v4 v5 v6 y0 o_cellAt o_courseAt o_paceAt o_turnsAt o_slowAt o_fuelAt o_ringAt H locs hP hD hS ls hl hw
    unfold f_X7_goes_B83 at hw
    refine lv_istore (lv' := [(7, .int y0), (0, .ref h_o), (1, .int v1), (2, .int v2), (3, .int v3), (4, .int v4), (5, .int v5), (6, .int v6)]) hx hb dX7_goes_83 hl (by decide) rfl (fun ls hl => ?_)
    refine lv_iload hx hb dX7_goes_85 (lv_at hl 0 rfl) ?_
    refine lv_if_eq (tgt := 112) hx hb dX7_goes_87 (by decide) (fun c_26 => ?_) (fun c_26 => ?_)
    · replace hw := okT hw c_26
      clear c_26
      exact w112 v1 v2 v3 v4 v5 v6 o_cellAt o_courseAt o_paceAt o_turnsAt o_slowAt o_fuelAt o_ringAt _ _ hP hD hS _ (lv_sub hl [1, 2, 3, 4, 5, 6, 7] rfl) hw
    · replace hw := okF hw c_26
      clear c_26
      refine lv_iload_n hx hb dX7_goes_90 rfl (lv_at hl 3 rfl) ?_
      refine lv_iconst (v := 2) hx hb dX7_goes_91 (by decide) ?_
      refine lv_idiv hx hb dX7_goes_92 (by decide) ?_
      refine lv_iconst (v := 1) hx hb dX7_goes_93 (by decide) ?_
      refine lv_isub hx hb dX7_goes_94 ?_
      refine lv_iload hx hb dX7_goes_95 (lv_at hl 6 rfl) ?_
      refine lv_icmp_ne (tgt := 102) hx hb dX7_goes_97 (by decide) (fun c_27 => ?_) (fun c_27 => ?_)
      · replace hw := okF hw c_27
        clear c_27
        refine lv_iload_n hx hb dX7_goes_102 rfl (lv_at hl 3 rfl) ?_
        refine lv_iconst (v := 2) hx hb dX7_goes_103 (by decide) ?_
        refine lv_idiv hx hb dX7_goes_104 (by decide) ?_
        refine lv_iconst (v := 1) hx hb dX7_goes_105 (by decide) ?_
        refine lv_isub hx hb dX7_goes_106 ?_
        refine lv_topi (fun x_28 ex_28 => ?_)
        replace hw := okN ex_28 hw
        clear ex_28
        refine lv_istore (lv' := [(5, .int x_28), (7, .int y0), (0, .ref h_o), (1, .int v1), (2, .int v2), (3, .int v3), (4, .int v4), (6, .int v6)]) hx hb dX7_goes_107 hl (by decide) rfl (fun ls hl => ?_)
        obtain ⟨x_29, ex_29⟩ : ∃ y : Int32, y = v3 + 1 := ⟨_, rfl⟩
        replace hw := okN ex_29 hw
        refine lv_iinc (v := x_29) (lv' := [(3, .int x_29), (5, .int x_28), (7, .int y0), (0, .ref h_o), (1, .int v1), (2, .int v2), (4, .int v4), (6, .int v6)]) hx hb dX7_goes_109 hl (k := 5) rfl (by rw [ex_29]; rfl) (by decide) rfl (fun ls hl => ?_)
        clear ex_29
        exact w112 v1 v2 x_29 v4 x_28 v6 o_cellAt o_courseAt o_paceAt o_turnsAt o_slowAt o_fuelAt o_ringAt _ _ hP hD hS _ (lv_sub hl [3, 4, 5, 0, 6, 1, 7] rfl) hw
      · replace hw := okT hw c_27
        clear c_27
        refine lv_iconst (v := 0) hx hb dX7_goes_100 (by decide) ?_
        rw [hQ]
        exact W.zret (v := 0) hx hb hr (by decide) (fun t ht hW => ⟨⟨0, (o_cellAt, o_courseAt, o_paceAt, o_turnsAt, o_slowAt, o_fuelAt, o_ringAt), rfl, okS hw, by rw [ht]; exact hP, va_K.moved hW.alike hK, hD⟩, hS.F ht⟩) hS.2.2 dX7_goes_101
  have w67 : ∀ (v1 : Int32) (v2 : Int32) (v3 : Int32) (v4 : Int32) (v5 : Int32) (y0 : Int32) (o_cellAt : Nat → Int32) (o_courseAt : Nat → Int32) (o_paceAt : Nat → Int32) (o_turnsAt : Nat → Int32) (o_slowAt : Nat → Int32) (o_fuelAt : Nat → Int32) (o_ringAt : Nat → Int32) (H : Heap) (locs : List Loc), va_P (dC, dI) vwCl (W_X7_goes cyI cyJ cyO h_o a_o_sets a_o_ringFar a_o_ringTone a_o_currents a_o_warmths a_o_depths a_o_tape a_o_readFar a_o_readTone a_o_readSea a_o_code a_o_cellAt a_o_courseAt a_o_paceAt a_o_turnsAt a_o_slowAt a_o_fuelAt a_o_ringAt a_o_pieceParts a_o_dragCell a_o_dragBy a_o_sums a_o_shares a_o_keptFar a_o_image a_o_lanes a_o_sizes a_o_items a_o_movedItems o_taped o_at o_wrong o_level o_noRings o_noTones o_noFuel o_pieces o_drags o_all o_noPieces o_noDrags o_kept o_sets o_ringFar o_ringTone o_code o_cellAt o_courseAt o_paceAt o_turnsAt o_slowAt o_fuelAt o_ringAt) H → va_D A (W_X7_goes cyI cyJ cyO h_o a_o_sets a_o_ringFar a_o_ringTone a_o_currents a_o_warmths a_o_depths a_o_tape a_o_readFar a_o_readTone a_o_readSea a_o_code a_o_cellAt a_o_courseAt a_o_paceAt a_o_turnsAt a_o_slowAt a_o_fuelAt a_o_ringAt a_o_pieceParts a_o_dragCell a_o_dragBy a_o_sums a_o_shares a_o_keptFar a_o_image a_o_lanes a_o_sizes a_o_items a_o_movedItems o_taped o_at o_wrong o_level o_noRings o_noTones o_noFuel o_pieces o_drags o_all o_noPieces o_noDrags o_kept o_sets o_ringFar o_ringTone o_code o_cellAt o_courseAt o_paceAt o_turnsAt o_slowAt o_fuelAt o_ringAt) → va_S A s.heap H locs → ∀ (ls : Array Slot), lv_has ls 9 [(0, .ref h_o), (1, .int v1), (2, .int v2), (3, .int v3), (4, .int v4), (5, .int v5)] → okP (f_X7_goes_B67 v1 v2 v3 v4 v5 y0 o_level o_noRings o_noTones o_noFuel o_sets o_ringFar o_ringTone o_code o_cellAt o_courseAt o_paceAt o_turnsAt o_slowAt o_fuelAt o_ringAt) post → W p l e (headSpec wsX7_goes rm_X7_goes).room s m ([.ref h_o] : List Value).toArray below meth c H locs 0 0 Q (F0 m 67 ls [.int y0]) := by
    intro v1 v2 v3 v4 v5 y0 o_cellAt o_courseAt o_paceAt o_turnsAt o_slowAt o_fuelAt o_ringAt H locs hP hD hS ls hl hw
    unfold f_X7_goes_B67 at hw
    refine lv_istore (lv' := [(6, .int y0), (0, .ref h_o), (1, .int v1), (2, .int v2), (3, .int v3), (4, .int v4), (5, .int v5)]) hx hb dX7_goes_67 hl (by decide) rfl (fun ls hl => ?_)
    refine lv_iload_n hx hb dX7_goes_69 rfl (lv_at hl 2 rfl) ?_
    refine lv_if_le (tgt := 125) hx hb dX7_goes_70 (by decide) (fun c_30 => ?_) (fun c_30 => ?_)
    · replace hw := okT hw c_30
      clear c_30
      exact w125 v1 v3 v4 v5 y0 o_cellAt o_courseAt o_paceAt o_turnsAt o_slowAt o_fuelAt o_ringAt _ _ hP hD hS _ (lv_sub hl [1, 2, 4, 5, 6, 0] rfl) hw
    · replace hw := okF hw c_30
      clear c_30
      refine lv_iload_n hx hb dX7_goes_73 rfl (lv_at hl 3 rfl) ?_
      refine lv_iconst (v := 1) hx hb dX7_goes_74 (by decide) ?_
      refine lv_icmp_le (tgt := 82) hx hb dX7_goes_75 (by decide) (fun c_31 => ?_) (fun c_31 => ?_)
      · replace hw := okT hw c_31
        clear c_31
        refine lv_iconst (v := 0) hx hb dX7_goes_82 (by decide) ?_
        exact w83 v1 v2 v3 v4 v5 y0 0 o_cellAt o_courseAt o_paceAt o_turnsAt o_slowAt o_fuelAt o_ringAt _ _ hP hD hS _ (lv_sub hl [1, 2, 3, 4, 5, 6, 0] rfl) hw
      · replace hw := okF hw c_31
        clear c_31
        refine lv_iconst (v := 1) hx hb dX7_goes_78 (by decide) ?_
        refine lv_goto (tgt := 83) hx hb dX7_goes_79 (by decide) ?_
        exact w83 v1 v2 v3 v4 v5 y0 1 o_cellAt o_courseAt o_paceAt o_turnsAt o_slowAt o_fuelAt o_ringAt _ _ hP hD hS _ (lv_sub hl [1, 2, 3, 4, 5, 6, 0] rfl) hw
  have w45 : ∀ (v1 : Int32) (v2 : Int32) (v3 : Int32) (v4 : Int32) (y0 : Int32) (o_cellAt : Nat → Int32) (o_courseAt : Nat → Int32) (o_paceAt : Nat → Int32) (o_turnsAt : Nat → Int32) (o_slowAt : Nat → Int32) (o_fuelAt : Nat → Int32) (o_ringAt : Nat → Int32) (H : Heap) (locs : List Loc), va_P (dC, dI) vwCl (W_X7_goes cyI cyJ cyO h_o a_o_sets a_o_ringFar a_o_ringTone a_o_currents a_o_warmths a_o_depths a_o_tape a_o_readFar a_o_readTone a_o_readSea a_o_code a_o_cellAt a_o_courseAt a_o_paceAt a_o_turnsAt a_o_slowAt a_o_fuelAt a_o_ringAt a_o_pieceParts a_o_dragCell a_o_dragBy a_o_sums a_o_shares a_o_keptFar a_o_image a_o_lanes a_o_sizes a_o_items a_o_movedItems o_taped o_at o_wrong o_level o_noRings o_noTones o_noFuel o_pieces o_drags o_all o_noPieces o_noDrags o_kept o_sets o_ringFar o_ringTone o_code o_cellAt o_courseAt o_paceAt o_turnsAt o_slowAt o_fuelAt o_ringAt) H → va_D A (W_X7_goes cyI cyJ cyO h_o a_o_sets a_o_ringFar a_o_ringTone a_o_currents a_o_warmths a_o_depths a_o_tape a_o_readFar a_o_readTone a_o_readSea a_o_code a_o_cellAt a_o_courseAt a_o_paceAt a_o_turnsAt a_o_slowAt a_o_fuelAt a_o_ringAt a_o_pieceParts a_o_dragCell a_o_dragBy a_o_sums a_o_shares a_o_keptFar a_o_image a_o_lanes a_o_sizes a_o_items a_o_movedItems o_taped o_at o_wrong o_level o_noRings o_noTones o_noFuel o_pieces o_drags o_all o_noPieces o_noDrags o_kept o_sets o_ringFar o_ringTone o_code o_cellAt o_courseAt o_paceAt o_turnsAt o_slowAt o_fuelAt o_ringAt) → va_S A s.heap H locs → ∀ (ls : Array Slot), lv_has ls 9 [(0, .ref h_o), (1, .int v1), (2, .int v2), (3, .int v3), (4, .int v4)] → okP (f_X7_goes_B45 v1 v2 v3 v4 y0 o_level o_noRings o_noTones o_noFuel o_sets o_ringFar o_ringTone o_code o_cellAt o_courseAt o_paceAt o_turnsAt o_slowAt o_fuelAt o_ringAt) post → W p l e (headSpec wsX7_goes rm_X7_goes).room s m ([.ref h_o] : List Value).toArray below meth c H locs 0 0 Q (F0 m 45 ls [.int y0]) := by
    intro v1 v2 v3 v4 y0 o_cellAt o_courseAt o_paceAt o_turnsAt o_slowAt o_fuelAt o_ringAt H locs hP hD hS ls hl hw
    unfold f_X7_goes_B45 at hw
    refine lv_istore (lv' := [(5, .int y0), (0, .ref h_o), (1, .int v1), (2, .int v2), (3, .int v3), (4, .int v4)]) hx hb dX7_goes_45 hl (by decide) rfl (fun ls hl => ?_)
    refine lv_iload_n hx hb dX7_goes_47 rfl (lv_at hl 2 rfl) ?_
    refine lv_if_ne (tgt := 59) hx hb dX7_goes_48 (by decide) (fun c_32 => ?_) (fun c_32 => ?_)
    · replace hw := okF hw c_32
      clear c_32
      refine lv_aload_n hx hb dX7_goes_59 rfl (lv_at hl 1 rfl) ?_
      refine va_get (D := (dC, dI)) (ci := 7) (v := .ref a_o_paceAt) (C := RX7) (T := TX7) (N := 42) hx hb hts hi7 hown hK hP 0 rfl rfl 16 (by decide) hq2 (fun _ h9 => h9) rfl dX7_goes_60 ?_
      refine lv_iload_n hx hb dX7_goes_63 rfl (lv_at hl 2 rfl) ?_
      refine lv_iconst (v := 1) hx hb dX7_goes_64 (by decide) ?_
      refine lv_isub hx hb dX7_goes_65 ?_
      obtain ⟨h_33, hw⟩ := okC hw
      refine va_iald (i := v1 - 1) hx hb hK hP 7 0 rfl rfl h_33 dX7_goes_66 ?_
      exact w67 v1 v2 v3 v4 y0 (o_paceAt (v1 - 1).toNatClampNeg) o_cellAt o_courseAt o_paceAt o_turnsAt o_slowAt o_fuelAt o_ringAt _ _ hP hD hS _ (lv_sub hl [1, 2, 3, 4, 5, 0] rfl) hw
    · replace hw := okT hw c_32
      clear c_32
      refine lv_iload_n hx hb dX7_goes_51 rfl (lv_at hl 3 rfl) ?_
      refine lv_iconst (v := 3) hx hb dX7_goes_52 (by decide) ?_
      refine lv_irem hx hb dX7_goes_53 (by decide) ?_
      refine lv_iconst (v := 1) hx hb dX7_goes_54 (by decide) ?_
      refine lv_iadd hx hb dX7_goes_55 ?_
      refine lv_goto (tgt := 67) hx hb dX7_goes_56 (by decide) ?_
      exact w67 v1 v2 v3 v4 y0 ((v2 - v2 / 3 * 3) + 1) o_cellAt o_courseAt o_paceAt o_turnsAt o_slowAt o_fuelAt o_ringAt _ _ hP hD hS _ (lv_sub hl [1, 2, 3, 4, 5, 0] rfl) hw
  unfold f_X7_goes at hw
  have hP : va_P (dC, dI) vwCl (W_X7_goes cyI cyJ cyO h_o a_o_sets a_o_ringFar a_o_ringTone a_o_currents a_o_warmths a_o_depths a_o_tape a_o_readFar a_o_readTone a_o_readSea a_o_code a_o_cellAt a_o_courseAt a_o_paceAt a_o_turnsAt a_o_slowAt a_o_fuelAt a_o_ringAt a_o_pieceParts a_o_dragCell a_o_dragBy a_o_sums a_o_shares a_o_keptFar a_o_image a_o_lanes a_o_sizes a_o_items a_o_movedItems o_taped o_at o_wrong o_level o_noRings o_noTones o_noFuel o_pieces o_drags o_all o_noPieces o_noDrags o_kept o_sets o_ringFar o_ringTone o_code o_cellAt o_courseAt o_paceAt o_turnsAt o_slowAt o_fuelAt o_ringAt) s.heap := hP
  obtain ⟨H, hH⟩ : ∃ H, H = s.heap := ⟨_, rfl⟩
  obtain ⟨locs, hlo⟩ : ∃ x : List Loc, x = [] := ⟨_, rfl⟩
  have hP : va_P (dC, dI) vwCl (W_X7_goes cyI cyJ cyO h_o a_o_sets a_o_ringFar a_o_ringTone a_o_currents a_o_warmths a_o_depths a_o_tape a_o_readFar a_o_readTone a_o_readSea a_o_code a_o_cellAt a_o_courseAt a_o_paceAt a_o_turnsAt a_o_slowAt a_o_fuelAt a_o_ringAt a_o_pieceParts a_o_dragCell a_o_dragBy a_o_sums a_o_shares a_o_keptFar a_o_image a_o_lanes a_o_sizes a_o_items a_o_movedItems o_taped o_at o_wrong o_level o_noRings o_noTones o_noFuel o_pieces o_drags o_all o_noPieces o_noDrags o_kept o_sets o_ringFar o_ringTone o_code o_cellAt o_courseAt o_paceAt o_turnsAt o_slowAt o_fuelAt o_ringAt) H := by rw [hH]; exact hP
  have hS : va_S A s.heap H locs := by rw [hH, hlo]; exact hS
  refine kH hH hlo ?_
  clear hH hlo
  refine lv_aload_n hx hb dX7_goes_0 rfl (lv_at hl 0 rfl) ?_
  refine va_get (D := (dC, dI)) (ci := 7) (v := .int o_level) (C := RX7) (T := TX7) (N := 42) hx hb hts hi7 hown hK hP 0 rfl rfl 21 (by decide) hq10 (fun _ h9 => h9) rfl dX7_goes_1 ?_
  refine lv_istore_n (lv' := [(1, .int o_level), (0, .ref h_o)]) hx hb dX7_goes_4 rfl hl (by decide) rfl (fun ls hl => ?_)
  refine lv_aload_n hx hb dX7_goes_5 rfl (lv_at hl 1 rfl) ?_
  refine va_get (D := (dC, dI)) (ci := 7) (v := .ref a_o_code) (C := RX7) (T := TX7) (N := 42) hx hb hts hi7 hown hK hP 0 rfl rfl 13 (by decide) hq11 (fun _ h9 => h9) rfl dX7_goes_6 ?_
  refine lv_iload_n hx hb dX7_goes_9 rfl (lv_at hl 0 rfl) ?_
  obtain ⟨h_34, hw⟩ := okC hw
  refine va_iald (i := o_level) hx hb hK hP 4 0 rfl rfl h_34 dX7_goes_10 ?_
  refine lv_topi (fun x_35 ex_35 => ?_)
  replace hw := okN ex_35 hw
  clear ex_35
  refine lv_istore_n (lv' := [(2, .int x_35), (1, .int o_level), (0, .ref h_o)]) hx hb dX7_goes_11 rfl hl (by decide) rfl (fun ls hl => ?_)
  refine lv_aload_n hx hb dX7_goes_12 rfl (lv_at hl 2 rfl) ?_
  refine va_get (D := (dC, dI)) (ci := 7) (v := .ref a_o_turnsAt) (C := RX7) (T := TX7) (N := 42) hx hb hts hi7 hown hK hP 0 rfl rfl 17 (by decide) hq4 (fun _ h9 => h9) rfl dX7_goes_13 ?_
  refine lv_iload_n hx hb dX7_goes_16 rfl (lv_at hl 1 rfl) ?_
  obtain ⟨h_36, hw⟩ := okC hw
  refine va_iald (i := o_level) hx hb hK hP 8 0 rfl rfl h_36 dX7_goes_17 ?_
  refine lv_topi (fun x_37 ex_37 => ?_)
  replace hw := okN ex_37 hw
  clear ex_37
  refine lv_istore_n (lv' := [(3, .int x_37), (2, .int x_35), (1, .int o_level), (0, .ref h_o)]) hx hb dX7_goes_18 rfl hl (by decide) rfl (fun ls hl => ?_)
  refine lv_aload_n hx hb dX7_goes_19 rfl (lv_at hl 3 rfl) ?_
  refine va_get (D := (dC, dI)) (ci := 7) (v := .ref a_o_slowAt) (C := RX7) (T := TX7) (N := 42) hx hb hts hi7 hown hK hP 0 rfl rfl 18 (by decide) hq5 (fun _ h9 => h9) rfl dX7_goes_20 ?_
  refine lv_iload_n hx hb dX7_goes_23 rfl (lv_at hl 2 rfl) ?_
  obtain ⟨h_38, hw⟩ := okC hw
  refine va_iald (i := o_level) hx hb hK hP 9 0 rfl rfl h_38 dX7_goes_24 ?_
  refine lv_topi (fun x_39 ex_39 => ?_)
  replace hw := okN ex_39 hw
  clear ex_39
  refine lv_istore (lv' := [(4, .int x_39), (3, .int x_37), (2, .int x_35), (1, .int o_level), (0, .ref h_o)]) hx hb dX7_goes_25 hl (by decide) rfl (fun ls hl => ?_)
  refine lv_iload_n hx hb dX7_goes_27 rfl (lv_at hl 3 rfl) ?_
  refine lv_if_ne (tgt := 37) hx hb dX7_goes_28 (by decide) (fun c_40 => ?_) (fun c_40 => ?_)
  · replace hw := okF hw c_40
    clear c_40
    refine lv_aload_n hx hb dX7_goes_37 rfl (lv_at hl 4 rfl) ?_
    refine va_get (D := (dC, dI)) (ci := 7) (v := .ref a_o_courseAt) (C := RX7) (T := TX7) (N := 42) hx hb hts hi7 hown hK hP 0 rfl rfl 15 (by decide) hq0 (fun _ h9 => h9) rfl dX7_goes_38 ?_
    refine lv_iload_n hx hb dX7_goes_41 rfl (lv_at hl 3 rfl) ?_
    refine lv_iconst (v := 1) hx hb dX7_goes_42 (by decide) ?_
    refine lv_isub hx hb dX7_goes_43 ?_
    obtain ⟨h_41, hw⟩ := okC hw
    refine va_iald (i := o_level - 1) hx hb hK hP 6 0 rfl rfl h_41 dX7_goes_44 ?_
    exact w45 o_level x_35 x_37 x_39 (o_courseAt (o_level - 1).toNatClampNeg) o_cellAt o_courseAt o_paceAt o_turnsAt o_slowAt o_fuelAt o_ringAt _ _ hP hD hS _ (lv_sub hl [4, 3, 2, 1, 0] rfl) hw
  · replace hw := okT hw c_40
    clear c_40
    refine lv_iload_n hx hb dX7_goes_31 rfl (lv_at hl 2 rfl) ?_
    refine lv_iconst (v := 3) hx hb dX7_goes_32 (by decide) ?_
    refine lv_idiv hx hb dX7_goes_33 (by decide) ?_
    refine lv_goto (tgt := 45) hx hb dX7_goes_34 (by decide) ?_
    exact w45 o_level x_35 x_37 x_39 (x_35 / 3) o_cellAt o_courseAt o_paceAt o_turnsAt o_slowAt o_fuelAt o_ringAt _ _ hP hD hS _ (lv_sub hl [4, 3, 2, 1, 0] rfl) hw
/-! ===== X7_goesOn ===== -/
theorem dX7_goesOn_0 : decode cX7_goesOn 0 = .ok (.aload_n 0, 1) := by decide +kernel
theorem dX7_goesOn_1 : decode cX7_goesOn 1 = .ok (.aload_n 0, 1) := by decide +kernel
theorem dX7_goesOn_2 : decode cX7_goesOn 2 = .ok (.getfield 164, 3) := by decide +kernel
theorem dX7_goesOn_5 : decode cX7_goesOn 5 = .ok (.aload_n 0, 1) := by decide +kernel
theorem dX7_goesOn_6 : decode cX7_goesOn 6 = .ok (.getfield 7, 3) := by decide +kernel
theorem dX7_goesOn_9 : decode cX7_goesOn 9 = .ok (.iconst 2, 1) := by decide +kernel
theorem dX7_goesOn_10 : decode cX7_goesOn 10 = .ok (.iaload, 1) := by decide +kernel
theorem dX7_goesOn_11 : decode cX7_goesOn 11 = .ok (.if_icmp .ne 12, 3) := by decide +kernel
theorem dX7_goesOn_14 : decode cX7_goesOn 14 = .ok (.aload_n 0, 1) := by decide +kernel
theorem dX7_goesOn_15 : decode cX7_goesOn 15 = .ok (.getfield 164, 3) := by decide +kernel
theorem dX7_goesOn_18 : decode cX7_goesOn 18 = .ok (.iconst 1, 1) := by decide +kernel
theorem dX7_goesOn_19 : decode cX7_goesOn 19 = .ok (.isub, 1) := by decide +kernel
theorem dX7_goesOn_20 : decode cX7_goesOn 20 = .ok (.goto 7, 3) := by decide +kernel
theorem dX7_goesOn_23 : decode cX7_goesOn 23 = .ok (.aload_n 0, 1) := by decide +kernel
theorem dX7_goesOn_24 : decode cX7_goesOn 24 = .ok (.getfield 164, 3) := by decide +kernel
theorem dX7_goesOn_27 : decode cX7_goesOn 27 = .ok (.putfield 164, 3) := by decide +kernel
theorem dX7_goesOn_30 : decode cX7_goesOn 30 = .ok (.aload_n 0, 1) := by decide +kernel
theorem dX7_goesOn_31 : decode cX7_goesOn 31 = .ok (.getfield 164, 3) := by decide +kernel
theorem dX7_goesOn_34 : decode cX7_goesOn 34 = .ok (.ifCond .lt 98, 3) := by decide +kernel
theorem dX7_goesOn_37 : decode cX7_goesOn 37 = .ok (.aload_n 0, 1) := by decide +kernel
theorem dX7_goesOn_38 : decode cX7_goesOn 38 = .ok (.getfield 164, 3) := by decide +kernel
theorem dX7_goesOn_41 : decode cX7_goesOn 41 = .ok (.aload_n 0, 1) := by decide +kernel
theorem dX7_goesOn_42 : decode cX7_goesOn 42 = .ok (.getfield 7, 3) := by decide +kernel
theorem dX7_goesOn_45 : decode cX7_goesOn 45 = .ok (.iconst 2, 1) := by decide +kernel
theorem dX7_goesOn_46 : decode cX7_goesOn 46 = .ok (.iaload, 1) := by decide +kernel
theorem dX7_goesOn_47 : decode cX7_goesOn 47 = .ok (.if_icmp .ge 85, 3) := by decide +kernel
theorem dX7_goesOn_50 : decode cX7_goesOn 50 = .ok (.aload_n 0, 1) := by decide +kernel
theorem dX7_goesOn_51 : decode cX7_goesOn 51 = .ok (.getfield 40, 3) := by decide +kernel
theorem dX7_goesOn_54 : decode cX7_goesOn 54 = .ok (.aload_n 0, 1) := by decide +kernel
theorem dX7_goesOn_55 : decode cX7_goesOn 55 = .ok (.getfield 164, 3) := by decide +kernel
theorem dX7_goesOn_58 : decode cX7_goesOn 58 = .ok (.dup2, 1) := by decide +kernel
theorem dX7_goesOn_59 : decode cX7_goesOn 59 = .ok (.iaload, 1) := by decide +kernel
theorem dX7_goesOn_60 : decode cX7_goesOn 60 = .ok (.iconst 1, 1) := by decide +kernel
theorem dX7_goesOn_61 : decode cX7_goesOn 61 = .ok (.iadd, 1) := by decide +kernel
theorem dX7_goesOn_62 : decode cX7_goesOn 62 = .ok (.iastore, 1) := by decide +kernel
theorem dX7_goesOn_63 : decode cX7_goesOn 63 = .ok (.aload_n 0, 1) := by decide +kernel
theorem dX7_goesOn_64 : decode cX7_goesOn 64 = .ok (.getfield 40, 3) := by decide +kernel
theorem dX7_goesOn_67 : decode cX7_goesOn 67 = .ok (.aload_n 0, 1) := by decide +kernel
theorem dX7_goesOn_68 : decode cX7_goesOn 68 = .ok (.getfield 164, 3) := by decide +kernel
theorem dX7_goesOn_71 : decode cX7_goesOn 71 = .ok (.iaload, 1) := by decide +kernel
theorem dX7_goesOn_72 : decode cX7_goesOn 72 = .ok (.aload_n 0, 1) := by decide +kernel
theorem dX7_goesOn_73 : decode cX7_goesOn 73 = .ok (.getfield 164, 3) := by decide +kernel
theorem dX7_goesOn_76 : decode cX7_goesOn 76 = .ok (.ifCond .ne 8, 3) := by decide +kernel
theorem dX7_goesOn_79 : decode cX7_goesOn 79 = .ok (.bipush 23, 2) := by decide +kernel
theorem dX7_goesOn_81 : decode cX7_goesOn 81 = .ok (.goto 5, 3) := by decide +kernel
theorem dX7_goesOn_84 : decode cX7_goesOn 84 = .ok (.bipush 17, 2) := by decide +kernel
theorem dX7_goesOn_86 : decode cX7_goesOn 86 = .ok (.if_icmp .le 16, 3) := by decide +kernel
theorem dX7_goesOn_89 : decode cX7_goesOn 89 = .ok (.aload_n 0, 1) := by decide +kernel
theorem dX7_goesOn_90 : decode cX7_goesOn 90 = .ok (.dup, 1) := by decide +kernel
theorem dX7_goesOn_91 : decode cX7_goesOn 91 = .ok (.getfield 164, 3) := by decide +kernel
theorem dX7_goesOn_94 : decode cX7_goesOn 94 = .ok (.iconst 1, 1) := by decide +kernel
theorem dX7_goesOn_95 : decode cX7_goesOn 95 = .ok (.isub, 1) := by decide +kernel
theorem dX7_goesOn_96 : decode cX7_goesOn 96 = .ok (.putfield 164, 3) := by decide +kernel
theorem dX7_goesOn_99 : decode cX7_goesOn 99 = .ok (.goto (-69), 3) := by decide +kernel
theorem dX7_goesOn_102 : decode cX7_goesOn 102 = .ok (.aload_n 0, 1) := by decide +kernel
theorem dX7_goesOn_103 : decode cX7_goesOn 103 = .ok (.invokevirtual 183, 3) := by decide +kernel
theorem dX7_goesOn_106 : decode cX7_goesOn 106 = .ok (.ifCond .eq (-76), 3) := by decide +kernel
theorem dX7_goesOn_109 : decode cX7_goesOn 109 = .ok (.aload_n 0, 1) := by decide +kernel
theorem dX7_goesOn_110 : decode cX7_goesOn 110 = .ok (.dup, 1) := by decide +kernel
theorem dX7_goesOn_111 : decode cX7_goesOn 111 = .ok (.getfield 164, 3) := by decide +kernel
theorem dX7_goesOn_114 : decode cX7_goesOn 114 = .ok (.iconst 1, 1) := by decide +kernel
theorem dX7_goesOn_115 : decode cX7_goesOn 115 = .ok (.iadd, 1) := by decide +kernel
theorem dX7_goesOn_116 : decode cX7_goesOn 116 = .ok (.putfield 164, 3) := by decide +kernel
theorem dX7_goesOn_119 : decode cX7_goesOn 119 = .ok (.aload_n 0, 1) := by decide +kernel
theorem dX7_goesOn_120 : decode cX7_goesOn 120 = .ok (.getfield 40, 3) := by decide +kernel
theorem dX7_goesOn_123 : decode cX7_goesOn 123 = .ok (.aload_n 0, 1) := by decide +kernel
theorem dX7_goesOn_124 : decode cX7_goesOn 124 = .ok (.getfield 164, 3) := by decide +kernel
theorem dX7_goesOn_127 : decode cX7_goesOn 127 = .ok (.iconst (-1), 1) := by decide +kernel
theorem dX7_goesOn_128 : decode cX7_goesOn 128 = .ok (.iastore, 1) := by decide +kernel
theorem dX7_goesOn_129 : decode cX7_goesOn 129 = .ok (.goto (-99), 3) := by decide +kernel
theorem dX7_goesOn_132 : decode cX7_goesOn 132 = .ok (.aload_n 0, 1) := by decide +kernel
theorem dX7_goesOn_133 : decode cX7_goesOn 133 = .ok (.getfield 164, 3) := by decide +kernel
theorem dX7_goesOn_136 : decode cX7_goesOn 136 = .ok (.ifCond .lt 7, 3) := by decide +kernel
theorem dX7_goesOn_139 : decode cX7_goesOn 139 = .ok (.iconst 1, 1) := by decide +kernel
theorem dX7_goesOn_140 : decode cX7_goesOn 140 = .ok (.goto 4, 3) := by decide +kernel
theorem dX7_goesOn_143 : decode cX7_goesOn 143 = .ok (.iconst 0, 1) := by decide +kernel
theorem dX7_goesOn_144 : decode cX7_goesOn 144 = .ok (.ireturn, 1) := by decide +kernel
abbrev W_X7_goesOn (cyI cyJ cyO : ClassId) (h_o a_o_sets a_o_ringFar a_o_ringTone a_o_currents a_o_warmths a_o_depths a_o_tape a_o_readFar a_o_readTone a_o_readSea a_o_code a_o_cellAt a_o_courseAt a_o_paceAt a_o_turnsAt a_o_slowAt a_o_fuelAt a_o_ringAt a_o_pieceParts a_o_dragCell a_o_dragBy a_o_sums a_o_shares a_o_keptFar a_o_image a_o_lanes a_o_sizes a_o_items a_o_movedItems : Nat) (o_taped : Int32) (o_at : Int32) (o_wrong : Int32) (o_level : Int32) (o_noRings : Int32) (o_noTones : Int32) (o_noFuel : Int32) (o_pieces : Int32) (o_drags : Int32) (o_all : Int64) (o_noPieces : Int32) (o_noDrags : Int32) (o_kept : Int32) (o_sets : Nat → Int32) (o_ringFar : Nat → Int32) (o_ringTone : Nat → Int32) (o_code : Nat → Int32) (o_cellAt : Nat → Int32) (o_courseAt : Nat → Int32) (o_paceAt : Nat → Int32) (o_turnsAt : Nat → Int32) (o_slowAt : Nat → Int32) (o_fuelAt : Nat → Int32) (o_ringAt : Nat → Int32) : va_W := [(h_o, .inr (7, [.ref a_o_sets, .ref a_o_ringFar, .ref a_o_ringTone, .ref a_o_currents, .ref a_o_warmths, .ref a_o_depths, .ref a_o_tape, .int o_taped, .int o_at, .int o_wrong, .ref a_o_readFar, .ref a_o_readTone, .ref a_o_readSea, .ref a_o_code, .ref a_o_cellAt, .ref a_o_courseAt, .ref a_o_paceAt, .ref a_o_turnsAt, .ref a_o_slowAt, .ref a_o_fuelAt, .ref a_o_ringAt, .int o_level, .int o_noRings, .int o_noTones, .int o_noFuel, .int o_pieces, .ref a_o_pieceParts, .int o_drags, .ref a_o_dragCell, .ref a_o_dragBy, .ref a_o_sums, .long o_all, .int o_noPieces, .int o_noDrags, .ref a_o_shares, .ref a_o_keptFar, .ref a_o_image, .int o_kept, .ref a_o_lanes, .ref a_o_sizes, .ref a_o_items, .ref a_o_movedItems])), (a_o_sets, .inl (cyI, 8, .inl o_sets)), (a_o_ringFar, .inl (cyI, 7, .inl o_ringFar)), (a_o_ringTone, .inl (cyI, 7, .inl o_ringTone)), (a_o_code, .inl (cyI, 7, .inl o_code)), (a_o_cellAt, .inl (cyI, 7, .inl o_cellAt)), (a_o_courseAt, .inl (cyI, 7, .inl o_courseAt)), (a_o_paceAt, .inl (cyI, 7, .inl o_paceAt)), (a_o_turnsAt, .inl (cyI, 7, .inl o_turnsAt)), (a_o_slowAt, .inl (cyI, 7, .inl o_slowAt)), (a_o_fuelAt, .inl (cyI, 7, .inl o_fuelAt)), (a_o_ringAt, .inl (cyI, 7, .inl o_ringAt))]
def f_X7_goesOn_B132 (o_level : Int32) (o_noRings : Int32) (o_noTones : Int32) (o_noFuel : Int32) (o_sets : Nat → Int32) (o_ringFar : Nat → Int32) (o_ringTone : Nat → Int32) (o_code : Nat → Int32) (o_cellAt : Nat → Int32) (o_courseAt : Nat → Int32) (o_paceAt : Nat → Int32) (o_turnsAt : Nat → Int32) (o_slowAt : Nat → Int32) (o_fuelAt : Nat → Int32) (o_ringAt : Nat → Int32) : Option (Int32 × Int32 × (Nat → Int32) × (Nat → Int32) × (Nat → Int32) × (Nat → Int32) × (Nat → Int32) × (Nat → Int32) × (Nat → Int32) × (Nat → Int32)) :=
  if o_level < 0 then
    some (0, o_level, o_code, o_cellAt, o_courseAt, o_paceAt, o_turnsAt, o_slowAt, o_fuelAt, o_ringAt)
  else
    some (1, o_level, o_code, o_cellAt, o_courseAt, o_paceAt, o_turnsAt, o_slowAt, o_fuelAt, o_ringAt)
def f_X7_goesOn_B86 (k30 : Int32 → Int32 → Int32 → Int32 → (Nat → Int32) → (Nat → Int32) → (Nat → Int32) → (Nat → Int32) → (Nat → Int32) → (Nat → Int32) → (Nat → Int32) → (Nat → Int32) → (Nat → Int32) → (Nat → Int32) → (Nat → Int32) → Option (Int32 × Int32 × (Nat → Int32) × (Nat → Int32) × (Nat → Int32) × (Nat → Int32) × (Nat → Int32) × (Nat → Int32) × (Nat → Int32) × (Nat → Int32))) (y0 : Int32) (y1 : Int32) (o_level : Int32) (o_noRings : Int32) (o_noTones : Int32) (o_noFuel : Int32) (o_sets : Nat → Int32) (o_ringFar : Nat → Int32) (o_ringTone : Nat → Int32) (o_code : Nat → Int32) (o_cellAt : Nat → Int32) (o_courseAt : Nat → Int32) (o_paceAt : Nat → Int32) (o_turnsAt : Nat → Int32) (o_slowAt : Nat → Int32) (o_fuelAt : Nat → Int32) (o_ringAt : Nat → Int32) : Option (Int32 × Int32 × (Nat → Int32) × (Nat → Int32) × (Nat → Int32) × (Nat → Int32) × (Nat → Int32) × (Nat → Int32) × (Nat → Int32) × (Nat → Int32)) :=
  if y1 ≤ y0 then
    bd8 (f_X7_goes o_level o_noRings o_noTones o_noFuel o_sets o_ringFar o_ringTone o_code o_cellAt o_courseAt o_paceAt o_turnsAt o_slowAt o_fuelAt o_ringAt) fun r_1 w_2 w_3 w_4 w_5 w_6 w_7 w_8 =>
    if r_1 = 0 then
      k30 o_level o_noRings o_noTones o_noFuel o_sets o_ringFar o_ringTone o_code w_2 w_3 w_4 w_5 w_6 w_7 w_8
    else
      nm (o_level + 1) fun x_9 =>
      chk (¬ (x_9 < 0 ∨ 7 ≤ x_9.toNatClampNeg)) <|
      k30 x_9 o_noRings o_noTones o_noFuel o_sets o_ringFar o_ringTone (upd o_code x_9.toNatClampNeg (-1)) w_2 w_3 w_4 w_5 w_6 w_7 w_8
  else
    nm (o_level - 1) fun x_10 =>
    k30 x_10 o_noRings o_noTones o_noFuel o_sets o_ringFar o_ringTone o_code o_cellAt o_courseAt o_paceAt o_turnsAt o_slowAt o_fuelAt o_ringAt
def f_X7_goesOn_L30b (k30 : Int32 → Int32 → Int32 → Int32 → (Nat → Int32) → (Nat → Int32) → (Nat → Int32) → (Nat → Int32) → (Nat → Int32) → (Nat → Int32) → (Nat → Int32) → (Nat → Int32) → (Nat → Int32) → (Nat → Int32) → (Nat → Int32) → Option (Int32 × Int32 × (Nat → Int32) × (Nat → Int32) × (Nat → Int32) × (Nat → Int32) × (Nat → Int32) × (Nat → Int32) × (Nat → Int32) × (Nat → Int32))) (o_level : Int32) (o_noRings : Int32) (o_noTones : Int32) (o_noFuel : Int32) (o_sets : Nat → Int32) (o_ringFar : Nat → Int32) (o_ringTone : Nat → Int32) (o_code : Nat → Int32) (o_cellAt : Nat → Int32) (o_courseAt : Nat → Int32) (o_paceAt : Nat → Int32) (o_turnsAt : Nat → Int32) (o_slowAt : Nat → Int32) (o_fuelAt : Nat → Int32) (o_ringAt : Nat → Int32) : Option (Int32 × Int32 × (Nat → Int32) × (Nat → Int32) × (Nat → Int32) × (Nat → Int32) × (Nat → Int32) × (Nat → Int32) × (Nat → Int32) × (Nat → Int32)) :=
  if o_level < 0 then
    f_X7_goesOn_B132 o_level o_noRings o_noTones o_noFuel o_sets o_ringFar o_ringTone o_code o_cellAt o_courseAt o_paceAt o_turnsAt o_slowAt o_fuelAt o_ringAt
  else
    if (o_sets 2) ≤ o_level then
      f_X7_goesOn_B132 o_level o_noRings o_noTones o_noFuel o_sets o_ringFar o_ringTone o_code o_cellAt o_courseAt o_paceAt o_turnsAt o_slowAt o_fuelAt o_ringAt
    else
      chk (¬ (o_level < 0 ∨ 7 ≤ o_level.toNatClampNeg)) <|
      nm ((o_code o_level.toNatClampNeg) + 1) fun x_11 =>
      chk (¬ (o_level < 0 ∨ 7 ≤ o_level.toNatClampNeg)) <|
      chk (¬ (o_level < 0 ∨ 7 ≤ o_level.toNatClampNeg)) <|
      if o_level = 0 then
        f_X7_goesOn_B86 k30 23 ((upd o_code o_level.toNatClampNeg x_11) o_level.toNatClampNeg) o_level o_noRings o_noTones o_noFuel o_sets o_ringFar o_ringTone (upd o_code o_level.toNatClampNeg x_11) o_cellAt o_courseAt o_paceAt o_turnsAt o_slowAt o_fuelAt o_ringAt
      else
        f_X7_goesOn_B86 k30 17 ((upd o_code o_level.toNatClampNeg x_11) o_level.toNatClampNeg) o_level o_noRings o_noTones o_noFuel o_sets o_ringFar o_ringTone (upd o_code o_level.toNatClampNeg x_11) o_cellAt o_courseAt o_paceAt o_turnsAt o_slowAt o_fuelAt o_ringAt
def f_X7_goesOn_L30 : Nat → Int32 → Int32 → Int32 → Int32 → (Nat → Int32) → (Nat → Int32) → (Nat → Int32) → (Nat → Int32) → (Nat → Int32) → (Nat → Int32) → (Nat → Int32) → (Nat → Int32) → (Nat → Int32) → (Nat → Int32) → (Nat → Int32) → Option (Int32 × Int32 × (Nat → Int32) × (Nat → Int32) × (Nat → Int32) × (Nat → Int32) × (Nat → Int32) × (Nat → Int32) × (Nat → Int32) × (Nat → Int32))
  | 0 => fun _ _ _ _ _ _ _ _ _ _ _ _ _ _ _ => none
  | n + 1 => f_X7_goesOn_L30b (f_X7_goesOn_L30 n)
def f_X7_goesOn_B27 (y0 : Int32) (o_level : Int32) (o_noRings : Int32) (o_noTones : Int32) (o_noFuel : Int32) (o_sets : Nat → Int32) (o_ringFar : Nat → Int32) (o_ringTone : Nat → Int32) (o_code : Nat → Int32) (o_cellAt : Nat → Int32) (o_courseAt : Nat → Int32) (o_paceAt : Nat → Int32) (o_turnsAt : Nat → Int32) (o_slowAt : Nat → Int32) (o_fuelAt : Nat → Int32) (o_ringAt : Nat → Int32) : Option (Int32 × Int32 × (Nat → Int32) × (Nat → Int32) × (Nat → Int32) × (Nat → Int32) × (Nat → Int32) × (Nat → Int32) × (Nat → Int32) × (Nat → Int32)) :=
  f_X7_goesOn_L30 FU y0 o_noRings o_noTones o_noFuel o_sets o_ringFar o_ringTone o_code o_cellAt o_courseAt o_paceAt o_turnsAt o_slowAt o_fuelAt o_ringAt
def f_X7_goesOn (o_level : Int32) (o_noRings : Int32) (o_noTones : Int32) (o_noFuel : Int32) (o_sets : Nat → Int32) (o_ringFar : Nat → Int32) (o_ringTone : Nat → Int32) (o_code : Nat → Int32) (o_cellAt : Nat → Int32) (o_courseAt : Nat → Int32) (o_paceAt : Nat → Int32) (o_turnsAt : Nat → Int32) (o_slowAt : Nat → Int32) (o_fuelAt : Nat → Int32) (o_ringAt : Nat → Int32) : Option (Int32 × Int32 × (Nat → Int32) × (Nat → Int32) × (Nat → Int32) × (Nat → Int32) × (Nat → Int32) × (Nat → Int32) × (Nat → Int32) × (Nat → Int32)) :=
  if o_level = (o_sets 2) then
    f_X7_goesOn_B27 (o_level - 1) o_level o_noRings o_noTones o_noFuel o_sets o_ringFar o_ringTone o_code o_cellAt o_courseAt o_paceAt o_turnsAt o_slowAt o_fuelAt o_ringAt
  else
    f_X7_goesOn_B27 o_level o_level o_noRings o_noTones o_noFuel o_sets o_ringFar o_ringTone o_code o_cellAt o_courseAt o_paceAt o_turnsAt o_slowAt o_fuelAt o_ringAt
abbrev rm_X7_goesOn : Room := { frames := 3, cells := 0, slots := 0, locals := 78 }
set_option maxRecDepth 100000 in
set_option maxHeartbeats 4000000 in
theorem c_X7_goesOn (l : Launch) (dC : Nat → ClassId) (dI : Nat → Nat → Nat) (cyI cyJ cyO : ClassId) (sz : Nat) (h_o a_o_sets a_o_ringFar a_o_ringTone a_o_currents a_o_warmths a_o_depths a_o_tape a_o_readFar a_o_readTone a_o_readSea a_o_code a_o_cellAt a_o_courseAt a_o_paceAt a_o_turnsAt a_o_slowAt a_o_fuelAt a_o_ringAt a_o_pieceParts a_o_dragCell a_o_dragBy a_o_sums a_o_shares a_o_keptFar a_o_image a_o_lanes a_o_sizes a_o_items a_o_movedItems : Nat) (o_taped : Int32) (o_at : Int32) (o_wrong : Int32) (o_level : Int32) (o_noRings : Int32) (o_noTones : Int32) (o_noFuel : Int32) (o_pieces : Int32) (o_drags : Int32) (o_all : Int64) (o_noPieces : Int32) (o_noDrags : Int32) (o_kept : Int32) (o_sets : Nat → Int32) (o_ringFar : Nat → Int32) (o_ringTone : Nat → Int32) (o_code : Nat → Int32) (o_cellAt : Nat → Int32) (o_courseAt : Nat → Int32) (o_paceAt : Nat → Int32) (o_turnsAt : Nat → Int32) (o_slowAt : Nat → Int32) (o_fuelAt : Nat → Int32) (o_ringAt : Nat → Int32) (post : (Int32 × Int32 × (Nat → Int32) × (Nat → Int32) × (Nat → Int32) × (Nat → Int32) × (Nat → Int32) × (Nat → Int32) × (Nat → Int32) × (Nat → Int32)) → Prop) (hf : okP (f_X7_goesOn o_level o_noRings o_noTones o_noFuel o_sets o_ringFar o_ringTone o_code o_cellAt o_courseAt o_paceAt o_turnsAt o_slowAt o_fuelAt o_ringAt) post) : Ci l (dC, dI) (tyL cyI cyJ cyO) yX7_goesOn wsX7_goesOn rm_X7_goesOn [.ref h_o] sz (W_X7_goesOn cyI cyJ cyO h_o a_o_sets a_o_ringFar a_o_ringTone a_o_currents a_o_warmths a_o_depths a_o_tape a_o_readFar a_o_readTone a_o_readSea a_o_code a_o_cellAt a_o_courseAt a_o_paceAt a_o_turnsAt a_o_slowAt a_o_fuelAt a_o_ringAt a_o_pieceParts a_o_dragCell a_o_dragBy a_o_sums a_o_shares a_o_keptFar a_o_image a_o_lanes a_o_sizes a_o_items a_o_movedItems o_taped o_at o_wrong o_level o_noRings o_noTones o_noFuel o_pieces o_drags o_all o_noPieces o_noDrags o_kept o_sets o_ringFar o_ringTone o_code o_cellAt o_courseAt o_paceAt o_turnsAt o_slowAt o_fuelAt o_ringAt) zN (fun r u => post (r, u)) (fun u => (W_X7_goesOn cyI cyJ cyO h_o a_o_sets a_o_ringFar a_o_ringTone a_o_currents a_o_warmths a_o_depths a_o_tape a_o_readFar a_o_readTone a_o_readSea a_o_code a_o_cellAt a_o_courseAt a_o_paceAt a_o_turnsAt a_o_slowAt a_o_fuelAt a_o_ringAt a_o_pieceParts a_o_dragCell a_o_dragBy a_o_sums a_o_shares a_o_keptFar a_o_image a_o_lanes a_o_sizes a_o_items a_o_movedItems o_taped o_at o_wrong u.1 o_noRings o_noTones o_noFuel o_pieces o_drags o_all o_noPieces o_noDrags o_kept o_sets o_ringFar o_ringTone u.2.1 u.2.2.1 u.2.2.2.1 u.2.2.2.2.1 u.2.2.2.2.2.1 u.2.2.2.2.2.2.1 u.2.2.2.2.2.2.2.1 u.2.2.2.2.2.2.2.2)) := by
  refine Met.ofW (cc := cX7_goesOn) (maxL := 1) (ret := (some .boolean)) (by decide) rfl ?_
  intro p e s m args below meth c s₁ B hml hv
  obtain ⟨rfl, hsz, hP, hK, hD0, hZ⟩ := hv
  have hx := B.exec
  have hb := B.bytes
  have hr := B.returns
  have hts := atoms_spec (ws := wsX7_goesOn) B.pre
  have hown : s.vm.findClass RX7 = some m.cls := findClass_of_methodNamed B.named
  have hlocks := B.notSynchronized
  subst hsz
  have hD := hD0.self (sz := s.heap.size)
  generalize hAe : va_A (W_X7_goesOn cyI cyJ cyO h_o a_o_sets a_o_ringFar a_o_ringTone a_o_currents a_o_warmths a_o_depths a_o_tape a_o_readFar a_o_readTone a_o_readSea a_o_code a_o_cellAt a_o_courseAt a_o_paceAt a_o_turnsAt a_o_slowAt a_o_fuelAt a_o_ringAt a_o_pieceParts a_o_dragCell a_o_dragBy a_o_sums a_o_shares a_o_keptFar a_o_image a_o_lanes a_o_sizes a_o_items a_o_movedItems o_taped o_at o_wrong o_level o_noRings o_noTones o_noFuel o_pieces o_drags o_all o_noPieces o_noDrags o_kept o_sets o_ringFar o_ringTone o_code o_cellAt o_courseAt o_paceAt o_turnsAt o_slowAt o_fuelAt o_ringAt) s.heap.size = A at hD hZ ⊢
  have hA : ∀ q : Nat, s.heap.size ≤ q → A q := fun q h => by rw [← hAe]; exact Or.inr h
  clear hAe hD0
  have hS : va_S A s.heap s.heap [] := va_S.rf
  have hl := lv_entry ([.ref h_o]) (n := 1) (Nat.le_of_ble_eq_true rfl)
  rw [lg_entry_eq]
  generalize (lg_sl ([.ref h_o]) ++ List.replicate (1 - (lg_sl ([.ref h_o])).length) Slot.unset).toArray = ls at hl ⊢
  have hl : lv_has ls 1 [(0, .ref h_o)] := hl
  refine kW (fun Q hQ => ?_)
  have hq0 := hts _ (List.mem_cons_of_mem _ q_727)
  have hi7 : ∀ w ∈ u_ws RX7 TX7 42, w ∈ wsX7_goesOn := fun w h => List.mem_cons_of_mem _ (inX7 w h)
  have hq2 := hts _ (List.mem_cons_of_mem _ q_719)
  have hq3 := hts _ (List.mem_cons_of_mem _ q_706)
  have hw := hf
  have w132 : ∀ (o_level : Int32) (o_code : Nat → Int32) (o_cellAt : Nat → Int32) (o_courseAt : Nat → Int32) (o_paceAt : Nat → Int32) (o_turnsAt : Nat → Int32) (o_slowAt : Nat → Int32) (o_fuelAt : Nat → Int32) (o_ringAt : Nat → Int32) (H : Heap) (locs : List Loc), va_P (dC, dI) vwCl (W_X7_goesOn cyI cyJ cyO h_o a_o_sets a_o_ringFar a_o_ringTone a_o_currents a_o_warmths a_o_depths a_o_tape a_o_readFar a_o_readTone a_o_readSea a_o_code a_o_cellAt a_o_courseAt a_o_paceAt a_o_turnsAt a_o_slowAt a_o_fuelAt a_o_ringAt a_o_pieceParts a_o_dragCell a_o_dragBy a_o_sums a_o_shares a_o_keptFar a_o_image a_o_lanes a_o_sizes a_o_items a_o_movedItems o_taped o_at o_wrong o_level o_noRings o_noTones o_noFuel o_pieces o_drags o_all o_noPieces o_noDrags o_kept o_sets o_ringFar o_ringTone o_code o_cellAt o_courseAt o_paceAt o_turnsAt o_slowAt o_fuelAt o_ringAt) H → va_D A (W_X7_goesOn cyI cyJ cyO h_o a_o_sets a_o_ringFar a_o_ringTone a_o_currents a_o_warmths a_o_depths a_o_tape a_o_readFar a_o_readTone a_o_readSea a_o_code a_o_cellAt a_o_courseAt a_o_paceAt a_o_turnsAt a_o_slowAt a_o_fuelAt a_o_ringAt a_o_pieceParts a_o_dragCell a_o_dragBy a_o_sums a_o_shares a_o_keptFar a_o_image a_o_lanes a_o_sizes a_o_items a_o_movedItems o_taped o_at o_wrong o_level o_noRings o_noTones o_noFuel o_pieces o_drags o_all o_noPieces o_noDrags o_kept o_sets o_ringFar o_ringTone o_code o_cellAt o_courseAt o_paceAt o_turnsAt o_slowAt o_fuelAt o_ringAt) → va_S A s.heap H locs → ∀ (ls : Array Slot), lv_has ls 1 [(0, .ref h_o)] → okP (f_X7_goesOn_B132 o_level o_noRings o_noTones o_noFuel o_sets o_ringFar o_ringTone o_code o_cellAt o_courseAt o_paceAt o_turnsAt o_slowAt o_fuelAt o_ringAt) post → W p l e (headSpec wsX7_goesOn rm_X7_goesOn).room s m ([.ref h_o] : List Value).toArray below meth c H locs 0 0 Q (F0 m 132 ls []) := by
    intro o_level o_code o_cellAt o_courseAt o_paceAt o_turnsAt o_slowAt o_fuelAt o_ringAt H locs hP hD hS ls hl hw
    unfold f_X7_goesOn_B132 at hw
    refine lv_aload_n hx hb dX7_goesOn_132 rfl (lv_at hl 0 rfl) ?_
    refine va_get (D := (dC, dI)) (ci := 7) (v := .int o_level) (C := RX7) (T := TX7) (N := 42) hx hb hts hi7 hown hK hP 0 rfl rfl 21 (by decide) hq0 (fun _ h9 => h9) rfl dX7_goesOn_133 ?_
    refine lv_if_lt (tgt := 143) hx hb dX7_goesOn_136 (by decide) (fun c_1 => ?_) (fun c_1 => ?_)
    · replace hw := okT hw c_1
      clear c_1
      refine lv_iconst (v := 0) hx hb dX7_goesOn_143 (by decide) ?_
      rw [hQ]
      exact W.zret (v := 0) hx hb hr (by decide) (fun t ht hW => ⟨⟨0, (o_level, o_code, o_cellAt, o_courseAt, o_paceAt, o_turnsAt, o_slowAt, o_fuelAt, o_ringAt), rfl, okS hw, by rw [ht]; exact hP, va_K.moved hW.alike hK, hD⟩, hS.F ht⟩) hS.2.2 dX7_goesOn_144
    · replace hw := okF hw c_1
      clear c_1
      refine lv_iconst (v := 1) hx hb dX7_goesOn_139 (by decide) ?_
      refine lv_goto (tgt := 144) hx hb dX7_goesOn_140 (by decide) ?_
      rw [hQ]
      exact W.zret (v := 1) hx hb hr (by decide) (fun t ht hW => ⟨⟨1, (o_level, o_code, o_cellAt, o_courseAt, o_paceAt, o_turnsAt, o_slowAt, o_fuelAt, o_ringAt), rfl, okS hw, by rw [ht]; exact hP, va_K.moved hW.alike hK, hD⟩, hS.F ht⟩) hS.2.2 dX7_goesOn_144
  have w30 : ∀ (n : Nat), ∀ (o_level : Int32) (o_code : Nat → Int32) (o_cellAt : Nat → Int32) (o_courseAt : Nat → Int32) (o_paceAt : Nat → Int32) (o_turnsAt : Nat → Int32) (o_slowAt : Nat → Int32) (o_fuelAt : Nat → Int32) (o_ringAt : Nat → Int32) (H : Heap) (locs : List Loc), va_P (dC, dI) vwCl (W_X7_goesOn cyI cyJ cyO h_o a_o_sets a_o_ringFar a_o_ringTone a_o_currents a_o_warmths a_o_depths a_o_tape a_o_readFar a_o_readTone a_o_readSea a_o_code a_o_cellAt a_o_courseAt a_o_paceAt a_o_turnsAt a_o_slowAt a_o_fuelAt a_o_ringAt a_o_pieceParts a_o_dragCell a_o_dragBy a_o_sums a_o_shares a_o_keptFar a_o_image a_o_lanes a_o_sizes a_o_items a_o_movedItems o_taped o_at o_wrong o_level o_noRings o_noTones o_noFuel o_pieces o_drags o_all o_noPieces o_noDrags o_kept o_sets o_ringFar o_ringTone o_code o_cellAt o_courseAt o_paceAt o_turnsAt o_slowAt o_fuelAt o_ringAt) H → va_D A (W_X7_goesOn cyI cyJ cyO h_o a_o_sets a_o_ringFar a_o_ringTone a_o_currents a_o_warmths a_o_depths a_o_tape a_o_readFar a_o_readTone a_o_readSea a_o_code a_o_cellAt a_o_courseAt a_o_paceAt a_o_turnsAt a_o_slowAt a_o_fuelAt a_o_ringAt a_o_pieceParts a_o_dragCell a_o_dragBy a_o_sums a_o_shares a_o_keptFar a_o_image a_o_lanes a_o_sizes a_o_items a_o_movedItems o_taped o_at o_wrong o_level o_noRings o_noTones o_noFuel o_pieces o_drags o_all o_noPieces o_noDrags o_kept o_sets o_ringFar o_ringTone o_code o_cellAt o_courseAt o_paceAt o_turnsAt o_slowAt o_fuelAt o_ringAt) → va_S A s.heap H locs → ∀ (ls : Array Slot), lv_has ls 1 [(0, .ref h_o)] → okP (f_X7_goesOn_L30 n o_level o_noRings o_noTones o_noFuel o_sets o_ringFar o_ringTone o_code o_cellAt o_courseAt o_paceAt o_turnsAt o_slowAt o_fuelAt o_ringAt) post → W p l e (headSpec wsX7_goesOn rm_X7_goesOn).room s m ([.ref h_o] : List Value).toArray below meth c H locs 0 0 Q (F0 m 30 ls []) := by
    intro n
    induction n with
    | zero =>
      intro o_level o_code o_cellAt o_courseAt o_paceAt o_turnsAt o_slowAt o_fuelAt o_ringAt H locs hP hD hS ls hl hw
      exact (ok0 hw).elim
    | succ n30 ih30 =>
      have w86 : ∀ (y0 : Int32) (y1 : Int32) (o_level : Int32) (o_code : Nat → Int32) (o_cellAt : Nat → Int32) (o_courseAt : Nat → Int32) (o_paceAt : Nat → Int32) (o_turnsAt : Nat → Int32) (o_slowAt : Nat → Int32) (o_fuelAt : Nat → Int32) (o_ringAt : Nat → Int32) (H : Heap) (locs : List Loc), va_P (dC, dI) vwCl (W_X7_goesOn cyI cyJ cyO h_o a_o_sets a_o_ringFar a_o_ringTone a_o_currents a_o_warmths a_o_depths a_o_tape a_o_readFar a_o_readTone a_o_readSea a_o_code a_o_cellAt a_o_courseAt a_o_paceAt a_o_turnsAt a_o_slowAt a_o_fuelAt a_o_ringAt a_o_pieceParts a_o_dragCell a_o_dragBy a_o_sums a_o_shares a_o_keptFar a_o_image a_o_lanes a_o_sizes a_o_items a_o_movedItems o_taped o_at o_wrong o_level o_noRings o_noTones o_noFuel o_pieces o_drags o_all o_noPieces o_noDrags o_kept o_sets o_ringFar o_ringTone o_code o_cellAt o_courseAt o_paceAt o_turnsAt o_slowAt o_fuelAt o_ringAt) H → va_D A (W_X7_goesOn cyI cyJ cyO h_o a_o_sets a_o_ringFar a_o_ringTone a_o_currents a_o_warmths a_o_depths a_o_tape a_o_readFar a_o_readTone a_o_readSea a_o_code a_o_cellAt a_o_courseAt a_o_paceAt a_o_turnsAt a_o_slowAt a_o_fuelAt a_o_ringAt a_o_pieceParts a_o_dragCell a_o_dragBy a_o_sums a_o_shares a_o_keptFar a_o_image a_o_lanes a_o_sizes a_o_items a_o_movedItems o_taped o_at o_wrong o_level o_noRings o_noTones o_noFuel o_pieces o_drags o_all o_noPieces o_noDrags o_kept o_sets o_ringFar o_ringTone o_code o_cellAt o_courseAt o_paceAt o_turnsAt o_slowAt o_fuelAt o_ringAt) → va_S A s.heap H locs → ∀ (ls : Array Slot), lv_has ls 1 [(0, .ref h_o)] → okP (f_X7_goesOn_B86 (f_X7_goesOn_L30 n30) y0 y1 o_level o_noRings o_noTones o_noFuel o_sets o_ringFar o_ringTone o_code o_cellAt o_courseAt o_paceAt o_turnsAt o_slowAt o_fuelAt o_ringAt) post → W p l e (headSpec wsX7_goesOn rm_X7_goesOn).room s m ([.ref h_o] : List Value).toArray below meth c H locs 0 0 Q (F0 m 86 ls [.int y0, .int y1]) := by
        intro y0 y1 o_level o_code o_cellAt o_courseAt o_paceAt o_turnsAt o_slowAt o_fuelAt o_ringAt H locs hP hD hS ls hl hw
        unfold f_X7_goesOn_B86 at hw
        refine lv_icmp_le (tgt := 102) hx hb dX7_goesOn_86 (by decide) (fun c_2 => ?_) (fun c_2 => ?_)
        · replace hw := okT hw c_2
          clear c_2
          refine lv_aload_n hx hb dX7_goesOn_102 rfl (lv_at hl 0 rfl) ?_
          have hPc := hP.sub (ws' := (W_X7_goes cyI cyJ cyO h_o a_o_sets a_o_ringFar a_o_ringTone a_o_currents a_o_warmths a_o_depths a_o_tape a_o_readFar a_o_readTone a_o_readSea a_o_code a_o_cellAt a_o_courseAt a_o_paceAt a_o_turnsAt a_o_slowAt a_o_fuelAt a_o_ringAt a_o_pieceParts a_o_dragCell a_o_dragBy a_o_sums a_o_shares a_o_keptFar a_o_image a_o_lanes a_o_sizes a_o_items a_o_movedItems o_taped o_at o_wrong o_level o_noRings o_noTones o_noFuel o_pieces o_drags o_all o_noPieces o_noDrags o_kept o_sets o_ringFar o_ringTone o_code o_cellAt o_courseAt o_paceAt o_turnsAt o_slowAt o_fuelAt o_ringAt)) [0, 1, 2, 3, 4, 5, 6, 7, 8, 9, 10, 11] rfl
          have hDc := hD.sub (ws' := (W_X7_goes cyI cyJ cyO h_o a_o_sets a_o_ringFar a_o_ringTone a_o_currents a_o_warmths a_o_depths a_o_tape a_o_readFar a_o_readTone a_o_readSea a_o_code a_o_cellAt a_o_courseAt a_o_paceAt a_o_turnsAt a_o_slowAt a_o_fuelAt a_o_ringAt a_o_pieceParts a_o_dragCell a_o_dragBy a_o_sums a_o_shares a_o_keptFar a_o_image a_o_lanes a_o_sizes a_o_items a_o_movedItems o_taped o_at o_wrong o_level o_noRings o_noTones o_noFuel o_pieces o_drags o_all o_noPieces o_noDrags o_kept o_sets o_ringFar o_ringTone o_code o_cellAt o_courseAt o_paceAt o_turnsAt o_slowAt o_fuelAt o_ringAt)) [0, 1, 2, 3, 4, 5, 6, 7, 8, 9, 10, 11] (by decide +kernel) rfl
          have hFc := va_free (wc := (W_X7_goes cyI cyJ cyO h_o a_o_sets a_o_ringFar a_o_ringTone a_o_currents a_o_warmths a_o_depths a_o_tape a_o_readFar a_o_readTone a_o_readSea a_o_code a_o_cellAt a_o_courseAt a_o_paceAt a_o_turnsAt a_o_slowAt a_o_fuelAt a_o_ringAt a_o_pieceParts a_o_dragCell a_o_dragBy a_o_sums a_o_shares a_o_keptFar a_o_image a_o_lanes a_o_sizes a_o_items a_o_movedItems o_taped o_at o_wrong o_level o_noRings o_noTones o_noFuel o_pieces o_drags o_all o_noPieces o_noDrags o_kept o_sets o_ringFar o_ringTone o_code o_cellAt o_courseAt o_paceAt o_turnsAt o_slowAt o_fuelAt o_ringAt)) hD hS hA [0, 1, 2, 3, 4, 5, 6, 7, 8, 9, 10, 11] rfl
          refine kc_i (wr := []) (va_runV (As := []) (rest := []) ⟨hx, hb, hml, hown, hts⟩ (c_X7_goes l dC dI cyI cyJ cyO H.size h_o a_o_sets a_o_ringFar a_o_ringTone a_o_currents a_o_warmths a_o_depths a_o_tape a_o_readFar a_o_readTone a_o_readSea a_o_code a_o_cellAt a_o_courseAt a_o_paceAt a_o_turnsAt a_o_slowAt a_o_fuelAt a_o_ringAt a_o_pieceParts a_o_dragCell a_o_dragBy a_o_sums a_o_shares a_o_keptFar a_o_image a_o_lanes a_o_sizes a_o_items a_o_movedItems o_taped o_at o_wrong o_level o_noRings o_noTones o_noFuel o_pieces o_drags o_all o_noPieces o_noDrags o_kept o_sets o_ringFar o_ringTone o_code o_cellAt o_courseAt o_paceAt o_turnsAt o_slowAt o_fuelAt o_ringAt _ (okb8 hw)) (cwV 0 hts (gdV (fun w h => List.mem_cons_of_mem _ h) q_908 q_910 qs_31 q_8 q_911) rfl rfl rfl (by decide +kernel) ⟨Nat.le_of_ble_eq_true rfl, Nat.le_of_ble_eq_true rfl⟩) ⟨(kpre zN_ok hK hPc hDc trivial hS hFc).1, va_recv hK hP (ci := 7) (q0 := 0) rfl rfl, (kpre zN_ok hK hPc hDc trivial hS hFc).2⟩ rfl rfl hl.1 rfl (lv_room (Nat.le_of_ble_eq_true rfl)) dX7_goesOn_103 ⟨Nat.le_of_ble_eq_true rfl, Nat.le_of_ble_eq_true rfl⟩) hP hD hS hFc [0, 1, 2, 3, 4, 5, 6, 7, 8, 9, 10, 11] [] rfl rfl (by decide +kernel) (by decide +kernel) (fun r_3 u H locs hw hP hD hS => ?_)
          obtain ⟨w_4, w_5, w_6, w_7, w_8, w_9, w_10⟩ := u
          try dsimp only at hw
          have hP : va_P (dC, dI) vwCl (W_X7_goesOn cyI cyJ cyO h_o a_o_sets a_o_ringFar a_o_ringTone a_o_currents a_o_warmths a_o_depths a_o_tape a_o_readFar a_o_readTone a_o_readSea a_o_code a_o_cellAt a_o_courseAt a_o_paceAt a_o_turnsAt a_o_slowAt a_o_fuelAt a_o_ringAt a_o_pieceParts a_o_dragCell a_o_dragBy a_o_sums a_o_shares a_o_keptFar a_o_image a_o_lanes a_o_sizes a_o_items a_o_movedItems o_taped o_at o_wrong o_level o_noRings o_noTones o_noFuel o_pieces o_drags o_all o_noPieces o_noDrags o_kept o_sets o_ringFar o_ringTone o_code w_4 w_5 w_6 w_7 w_8 w_9 w_10) H := hP.sub [0, 1, 2, 3, 4, 5, 6, 7, 8, 9, 10, 11] rfl
          have hD : va_D A (W_X7_goesOn cyI cyJ cyO h_o a_o_sets a_o_ringFar a_o_ringTone a_o_currents a_o_warmths a_o_depths a_o_tape a_o_readFar a_o_readTone a_o_readSea a_o_code a_o_cellAt a_o_courseAt a_o_paceAt a_o_turnsAt a_o_slowAt a_o_fuelAt a_o_ringAt a_o_pieceParts a_o_dragCell a_o_dragBy a_o_sums a_o_shares a_o_keptFar a_o_image a_o_lanes a_o_sizes a_o_items a_o_movedItems o_taped o_at o_wrong o_level o_noRings o_noTones o_noFuel o_pieces o_drags o_all o_noPieces o_noDrags o_kept o_sets o_ringFar o_ringTone o_code w_4 w_5 w_6 w_7 w_8 w_9 w_10) := hD.sub [0, 1, 2, 3, 4, 5, 6, 7, 8, 9, 10, 11] (by decide +kernel) rfl
          clear hPc hDc hFc
          refine lv_if_eq (tgt := 30) hx hb dX7_goesOn_106 (by decide) (fun c_11 => ?_) (fun c_11 => ?_)
          · replace hw := okT hw c_11
            clear c_11
            exact ih30 o_level o_code w_4 w_5 w_6 w_7 w_8 w_9 w_10 _ _ hP hD hS _ (lv_sub hl [0] rfl) hw
          · replace hw := okF hw c_11
            clear c_11
            refine lv_aload_n hx hb dX7_goesOn_109 rfl (lv_at hl 0 rfl) ?_
            refine lv_dup hx hb dX7_goesOn_110 rfl ?_
            refine va_get (D := (dC, dI)) (ci := 7) (v := .int o_level) (C := RX7) (T := TX7) (N := 42) hx hb hts hi7 hown hK hP 0 rfl rfl 21 (by decide) hq0 (fun _ h9 => h9) rfl dX7_goesOn_111 ?_
            refine lv_iconst (v := 1) hx hb dX7_goesOn_114 (by decide) ?_
            refine lv_iadd hx hb dX7_goesOn_115 ?_
            refine lv_topi (fun x_12 ex_12 => ?_)
            replace hw := okN ex_12 hw
            clear ex_12
            refine va_put (D := (dC, dI)) (ci := 7) (v := .int x_12) (ty := .int) (C := RX7) (T := TX7) (N := 42) hx hb hts hi7 tyX7 tyX7_ok nmX7 hown hK hP hD hS 0 rfl rfl 21 (by decide) hq0 (fun _ h9 => h9) rfl (by decide +kernel) rfl rfl (Nat.le_of_ble_eq_true rfl) dX7_goesOn_116 (fun H locs hP hD hS => ?_)
            have hP : va_P (dC, dI) vwCl (W_X7_goesOn cyI cyJ cyO h_o a_o_sets a_o_ringFar a_o_ringTone a_o_currents a_o_warmths a_o_depths a_o_tape a_o_readFar a_o_readTone a_o_readSea a_o_code a_o_cellAt a_o_courseAt a_o_paceAt a_o_turnsAt a_o_slowAt a_o_fuelAt a_o_ringAt a_o_pieceParts a_o_dragCell a_o_dragBy a_o_sums a_o_shares a_o_keptFar a_o_image a_o_lanes a_o_sizes a_o_items a_o_movedItems o_taped o_at o_wrong x_12 o_noRings o_noTones o_noFuel o_pieces o_drags o_all o_noPieces o_noDrags o_kept o_sets o_ringFar o_ringTone o_code w_4 w_5 w_6 w_7 w_8 w_9 w_10) H := hP
            have hD : va_D A (W_X7_goesOn cyI cyJ cyO h_o a_o_sets a_o_ringFar a_o_ringTone a_o_currents a_o_warmths a_o_depths a_o_tape a_o_readFar a_o_readTone a_o_readSea a_o_code a_o_cellAt a_o_courseAt a_o_paceAt a_o_turnsAt a_o_slowAt a_o_fuelAt a_o_ringAt a_o_pieceParts a_o_dragCell a_o_dragBy a_o_sums a_o_shares a_o_keptFar a_o_image a_o_lanes a_o_sizes a_o_items a_o_movedItems o_taped o_at o_wrong x_12 o_noRings o_noTones o_noFuel o_pieces o_drags o_all o_noPieces o_noDrags o_kept o_sets o_ringFar o_ringTone o_code w_4 w_5 w_6 w_7 w_8 w_9 w_10) := hD
            refine lv_aload_n hx hb dX7_goesOn_119 rfl (lv_at hl 0 rfl) ?_
            refine va_get (D := (dC, dI)) (ci := 7) (v := .ref a_o_code) (C := RX7) (T := TX7) (N := 42) hx hb hts hi7 hown hK hP 0 rfl rfl 13 (by decide) hq2 (fun _ h9 => h9) rfl dX7_goesOn_120 ?_
            refine lv_aload_n hx hb dX7_goesOn_123 rfl (lv_at hl 0 rfl) ?_
            refine va_get (D := (dC, dI)) (ci := 7) (v := .int x_12) (C := RX7) (T := TX7) (N := 42) hx hb hts hi7 hown hK hP 0 rfl rfl 21 (by decide) hq0 (fun _ h9 => h9) rfl dX7_goesOn_124 ?_
            refine lv_iconst (v := (-1)) hx hb dX7_goesOn_127 (by decide) ?_
            obtain ⟨h_13, hw⟩ := okC hw
            refine va_iast (i := x_12) (x := (-1)) hx hb hK hP hD hS 4 0 rfl rfl h_13 dX7_goesOn_128 (fun H locs hP hD hS => ?_)
            have hP : va_P (dC, dI) vwCl (W_X7_goesOn cyI cyJ cyO h_o a_o_sets a_o_ringFar a_o_ringTone a_o_currents a_o_warmths a_o_depths a_o_tape a_o_readFar a_o_readTone a_o_readSea a_o_code a_o_cellAt a_o_courseAt a_o_paceAt a_o_turnsAt a_o_slowAt a_o_fuelAt a_o_ringAt a_o_pieceParts a_o_dragCell a_o_dragBy a_o_sums a_o_shares a_o_keptFar a_o_image a_o_lanes a_o_sizes a_o_items a_o_movedItems o_taped o_at o_wrong x_12 o_noRings o_noTones o_noFuel o_pieces o_drags o_all o_noPieces o_noDrags o_kept o_sets o_ringFar o_ringTone (upd o_code x_12.toNatClampNeg (-1)) w_4 w_5 w_6 w_7 w_8 w_9 w_10) H := hP
            have hD : va_D A (W_X7_goesOn cyI cyJ cyO h_o a_o_sets a_o_ringFar a_o_ringTone a_o_currents a_o_warmths a_o_depths a_o_tape a_o_readFar a_o_readTone a_o_readSea a_o_code a_o_cellAt a_o_courseAt a_o_paceAt a_o_turnsAt a_o_slowAt a_o_fuelAt a_o_ringAt a_o_pieceParts a_o_dragCell a_o_dragBy a_o_sums a_o_shares a_o_keptFar a_o_image a_o_lanes a_o_sizes a_o_items a_o_movedItems o_taped o_at o_wrong x_12 o_noRings o_noTones o_noFuel o_pieces o_drags o_all o_noPieces o_noDrags o_kept o_sets o_ringFar o_ringTone (upd o_code x_12.toNatClampNeg (-1)) w_4 w_5 w_6 w_7 w_8 w_9 w_10) := hD
            refine lv_goto (tgt := 30) hx hb dX7_goesOn_129 (by decide) ?_
            exact ih30 x_12 (upd o_code x_12.toNatClampNeg (-1)) w_4 w_5 w_6 w_7 w_8 w_9 w_10 _ _ hP hD hS _ (lv_sub hl [0] rfl) hw
        · replace hw := okF hw c_2
          clear c_2
          refine lv_aload_n hx hb dX7_goesOn_89 rfl (lv_at hl 0 rfl) ?_
          refine lv_dup hx hb dX7_goesOn_90 rfl ?_
          refine va_get (D := (dC, dI)) (ci := 7) (v := .int o_level) (C := RX7) (T := TX7) (N := 42) hx hb hts hi7 hown hK hP 0 rfl rfl 21 (by decide) hq0 (fun _ h9 => h9) rfl dX7_goesOn_91 ?_
          refine lv_iconst (v := 1) hx hb dX7_goesOn_94 (by decide) ?_
          refine lv_isub hx hb dX7_goesOn_95 ?_
          refine lv_topi (fun x_14 ex_14 => ?_)
          replace hw := okN ex_14 hw
          clear ex_14
          refine va_put (D := (dC, dI)) (ci := 7) (v := .int x_14) (ty := .int) (C := RX7) (T := TX7) (N := 42) hx hb hts hi7 tyX7 tyX7_ok nmX7 hown hK hP hD hS 0 rfl rfl 21 (by decide) hq0 (fun _ h9 => h9) rfl (by decide +kernel) rfl rfl (Nat.le_of_ble_eq_true rfl) dX7_goesOn_96 (fun H locs hP hD hS => ?_)
          have hP : va_P (dC, dI) vwCl (W_X7_goesOn cyI cyJ cyO h_o a_o_sets a_o_ringFar a_o_ringTone a_o_currents a_o_warmths a_o_depths a_o_tape a_o_readFar a_o_readTone a_o_readSea a_o_code a_o_cellAt a_o_courseAt a_o_paceAt a_o_turnsAt a_o_slowAt a_o_fuelAt a_o_ringAt a_o_pieceParts a_o_dragCell a_o_dragBy a_o_sums a_o_shares a_o_keptFar a_o_image a_o_lanes a_o_sizes a_o_items a_o_movedItems o_taped o_at o_wrong x_14 o_noRings o_noTones o_noFuel o_pieces o_drags o_all o_noPieces o_noDrags o_kept o_sets o_ringFar o_ringTone o_code o_cellAt o_courseAt o_paceAt o_turnsAt o_slowAt o_fuelAt o_ringAt) H := hP
          have hD : va_D A (W_X7_goesOn cyI cyJ cyO h_o a_o_sets a_o_ringFar a_o_ringTone a_o_currents a_o_warmths a_o_depths a_o_tape a_o_readFar a_o_readTone a_o_readSea a_o_code a_o_cellAt a_o_courseAt a_o_paceAt a_o_turnsAt a_o_slowAt a_o_fuelAt a_o_ringAt a_o_pieceParts a_o_dragCell a_o_dragBy a_o_sums a_o_shares a_o_keptFar a_o_image a_o_lanes a_o_sizes a_o_items a_o_movedItems o_taped o_at o_wrong x_14 o_noRings o_noTones o_noFuel o_pieces o_drags o_all o_noPieces o_noDrags o_kept o_sets o_ringFar o_ringTone o_code o_cellAt o_courseAt o_paceAt o_turnsAt o_slowAt o_fuelAt o_ringAt) := hD
          refine lv_goto (tgt := 30) hx hb dX7_goesOn_99 (by decide) ?_
          exact ih30 x_14 o_code o_cellAt o_courseAt o_paceAt o_turnsAt o_slowAt o_fuelAt o_ringAt _ _ hP hD hS _ (lv_sub hl [0] rfl) hw
      intro o_level o_code o_cellAt o_courseAt o_paceAt o_turnsAt o_slowAt o_fuelAt o_ringAt H locs hP hD hS ls hl hw
      replace hw : okP (f_X7_goesOn_L30b (f_X7_goesOn_L30 n30) o_level o_noRings o_noTones o_noFuel o_sets o_ringFar o_ringTone o_code o_cellAt o_courseAt o_paceAt o_turnsAt o_slowAt o_fuelAt o_ringAt) post := hw
      unfold f_X7_goesOn_L30b at hw
      refine lv_aload_n hx hb dX7_goesOn_30 rfl (lv_at hl 0 rfl) ?_
      refine va_get (D := (dC, dI)) (ci := 7) (v := .int o_level) (C := RX7) (T := TX7) (N := 42) hx hb hts hi7 hown hK hP 0 rfl rfl 21 (by decide) hq0 (fun _ h9 => h9) rfl dX7_goesOn_31 ?_
      refine lv_if_lt (tgt := 132) hx hb dX7_goesOn_34 (by decide) (fun c_15 => ?_) (fun c_15 => ?_)
      · replace hw := okT hw c_15
        clear c_15
        exact w132 o_level o_code o_cellAt o_courseAt o_paceAt o_turnsAt o_slowAt o_fuelAt o_ringAt _ _ hP hD hS _ (lv_sub hl [0] rfl) hw
      · replace hw := okF hw c_15
        clear c_15
        refine lv_aload_n hx hb dX7_goesOn_37 rfl (lv_at hl 0 rfl) ?_
        refine va_get (D := (dC, dI)) (ci := 7) (v := .int o_level) (C := RX7) (T := TX7) (N := 42) hx hb hts hi7 hown hK hP 0 rfl rfl 21 (by decide) hq0 (fun _ h9 => h9) rfl dX7_goesOn_38 ?_
        refine lv_aload_n hx hb dX7_goesOn_41 rfl (lv_at hl 0 rfl) ?_
        refine va_get (D := (dC, dI)) (ci := 7) (v := .ref a_o_sets) (C := RX7) (T := TX7) (N := 42) hx hb hts hi7 hown hK hP 0 rfl rfl 0 (by decide) hq3 (fun _ h9 => h9) rfl dX7_goesOn_42 ?_
        refine lv_iconst (v := 2) hx hb dX7_goesOn_45 (by decide) ?_
        refine va_iald (i := 2) hx hb hK hP 1 0 rfl rfl (show ¬ _ by decide) dX7_goesOn_46 ?_
        refine lv_icmp_ge (tgt := 132) hx hb dX7_goesOn_47 (by decide) (fun c_16 => ?_) (fun c_16 => ?_)
        · replace hw := okT hw c_16
          clear c_16
          exact w132 o_level o_code o_cellAt o_courseAt o_paceAt o_turnsAt o_slowAt o_fuelAt o_ringAt _ _ hP hD hS _ (lv_sub hl [0] rfl) hw
        · replace hw := okF hw c_16
          clear c_16
          refine lv_aload_n hx hb dX7_goesOn_50 rfl (lv_at hl 0 rfl) ?_
          refine va_get (D := (dC, dI)) (ci := 7) (v := .ref a_o_code) (C := RX7) (T := TX7) (N := 42) hx hb hts hi7 hown hK hP 0 rfl rfl 13 (by decide) hq2 (fun _ h9 => h9) rfl dX7_goesOn_51 ?_
          refine lv_aload_n hx hb dX7_goesOn_54 rfl (lv_at hl 0 rfl) ?_
          refine va_get (D := (dC, dI)) (ci := 7) (v := .int o_level) (C := RX7) (T := TX7) (N := 42) hx hb hts hi7 hown hK hP 0 rfl rfl 21 (by decide) hq0 (fun _ h9 => h9) rfl dX7_goesOn_55 ?_
          refine lv_dup2_11 hx hb dX7_goesOn_58 rfl rfl ?_
          obtain ⟨h_17, hw⟩ := okC hw
          refine va_iald (i := o_level) hx hb hK hP 4 0 rfl rfl h_17 dX7_goesOn_59 ?_
          refine lv_iconst (v := 1) hx hb dX7_goesOn_60 (by decide) ?_
          refine lv_iadd hx hb dX7_goesOn_61 ?_
          refine lv_topi (fun x_18 ex_18 => ?_)
          replace hw := okN ex_18 hw
          clear ex_18
          obtain ⟨h_19, hw⟩ := okC hw
          refine va_iast (i := o_level) (x := x_18) hx hb hK hP hD hS 4 0 rfl rfl h_19 dX7_goesOn_62 (fun H locs hP hD hS => ?_)
          have hP : va_P (dC, dI) vwCl (W_X7_goesOn cyI cyJ cyO h_o a_o_sets a_o_ringFar a_o_ringTone a_o_currents a_o_warmths a_o_depths a_o_tape a_o_readFar a_o_readTone a_o_readSea a_o_code a_o_cellAt a_o_courseAt a_o_paceAt a_o_turnsAt a_o_slowAt a_o_fuelAt a_o_ringAt a_o_pieceParts a_o_dragCell a_o_dragBy a_o_sums a_o_shares a_o_keptFar a_o_image a_o_lanes a_o_sizes a_o_items a_o_movedItems o_taped o_at o_wrong o_level o_noRings o_noTones o_noFuel o_pieces o_drags o_all o_noPieces o_noDrags o_kept o_sets o_ringFar o_ringTone (upd o_code o_level.toNatClampNeg x_18) o_cellAt o_courseAt o_paceAt o_turnsAt o_slowAt o_fuelAt o_ringAt) H := hP
          have hD : va_D A (W_X7_goesOn cyI cyJ cyO h_o a_o_sets a_o_ringFar a_o_ringTone a_o_currents a_o_warmths a_o_depths a_o_tape a_o_readFar a_o_readTone a_o_readSea a_o_code a_o_cellAt a_o_courseAt a_o_paceAt a_o_turnsAt a_o_slowAt a_o_fuelAt a_o_ringAt a_o_pieceParts a_o_dragCell a_o_dragBy a_o_sums a_o_shares a_o_keptFar a_o_image a_o_lanes a_o_sizes a_o_items a_o_movedItems o_taped o_at o_wrong o_level o_noRings o_noTones o_noFuel o_pieces o_drags o_all o_noPieces o_noDrags o_kept o_sets o_ringFar o_ringTone (upd o_code o_level.toNatClampNeg x_18) o_cellAt o_courseAt o_paceAt o_turnsAt o_slowAt o_fuelAt o_ringAt) := hD
          refine lv_aload_n hx hb dX7_goesOn_63 rfl (lv_at hl 0 rfl) ?_
          refine va_get (D := (dC, dI)) (ci := 7) (v := .ref a_o_code) (C := RX7) (T := TX7) (N := 42) hx hb hts hi7 hown hK hP 0 rfl rfl 13 (by decide) hq2 (fun _ h9 => h9) rfl dX7_goesOn_64 ?_
          refine lv_aload_n hx hb dX7_goesOn_67 rfl (lv_at hl 0 rfl) ?_
          refine va_get (D := (dC, dI)) (ci := 7) (v := .int o_level) (C := RX7) (T := TX7) (N := 42) hx hb hts hi7 hown hK hP 0 rfl rfl 21 (by decide) hq0 (fun _ h9 => h9) rfl dX7_goesOn_68 ?_
          obtain ⟨h_20, hw⟩ := okC hw
          refine va_iald (i := o_level) hx hb hK hP 4 0 rfl rfl h_20 dX7_goesOn_71 ?_
          refine lv_aload_n hx hb dX7_goesOn_72 rfl (lv_at hl 0 rfl) ?_
          refine va_get (D := (dC, dI)) (ci := 7) (v := .int o_level) (C := RX7) (T := TX7) (N := 42) hx hb hts hi7 hown hK hP 0 rfl rfl 21 (by decide) hq0 (fun _ h9 => h9) rfl dX7_goesOn_73 ?_
          refine lv_if_ne (tgt := 84) hx hb dX7_goesOn_76 (by decide) (fun c_21 => ?_) (fun c_21 => ?_)
          · replace hw := okF hw c_21
            clear c_21
            refine lv_bipush (v := 17) hx hb dX7_goesOn_84 (by decide) ?_
            exact w86 17 ((upd o_code o_level.toNatClampNeg x_18) o_level.toNatClampNeg) o_level (upd o_code o_level.toNatClampNeg x_18) o_cellAt o_courseAt o_paceAt o_turnsAt o_slowAt o_fuelAt o_ringAt _ _ hP hD hS _ (lv_sub hl [0] rfl) hw
          · replace hw := okT hw c_21
            clear c_21
            refine lv_bipush (v := 23) hx hb dX7_goesOn_79 (by decide) ?_
            refine lv_goto (tgt := 86) hx hb dX7_goesOn_81 (by decide) ?_
            exact w86 23 ((upd o_code o_level.toNatClampNeg x_18) o_level.toNatClampNeg) o_level (upd o_code o_level.toNatClampNeg x_18) o_cellAt o_courseAt o_paceAt o_turnsAt o_slowAt o_fuelAt o_ringAt _ _ hP hD hS _ (lv_sub hl [0] rfl) hw
  have w27 : ∀ (y0 : Int32) (o_level : Int32) (o_code : Nat → Int32) (o_cellAt : Nat → Int32) (o_courseAt : Nat → Int32) (o_paceAt : Nat → Int32) (o_turnsAt : Nat → Int32) (o_slowAt : Nat → Int32) (o_fuelAt : Nat → Int32) (o_ringAt : Nat → Int32) (H : Heap) (locs : List Loc), va_P (dC, dI) vwCl (W_X7_goesOn cyI cyJ cyO h_o a_o_sets a_o_ringFar a_o_ringTone a_o_currents a_o_warmths a_o_depths a_o_tape a_o_readFar a_o_readTone a_o_readSea a_o_code a_o_cellAt a_o_courseAt a_o_paceAt a_o_turnsAt a_o_slowAt a_o_fuelAt a_o_ringAt a_o_pieceParts a_o_dragCell a_o_dragBy a_o_sums a_o_shares a_o_keptFar a_o_image a_o_lanes a_o_sizes a_o_items a_o_movedItems o_taped o_at o_wrong o_level o_noRings o_noTones o_noFuel o_pieces o_drags o_all o_noPieces o_noDrags o_kept o_sets o_ringFar o_ringTone o_code o_cellAt o_courseAt o_paceAt o_turnsAt o_slowAt o_fuelAt o_ringAt) H → va_D A (W_X7_goesOn cyI cyJ cyO h_o a_o_sets a_o_ringFar a_o_ringTone a_o_currents a_o_warmths a_o_depths a_o_tape a_o_readFar a_o_readTone a_o_readSea a_o_code a_o_cellAt a_o_courseAt a_o_paceAt a_o_turnsAt a_o_slowAt a_o_fuelAt a_o_ringAt a_o_pieceParts a_o_dragCell a_o_dragBy a_o_sums a_o_shares a_o_keptFar a_o_image a_o_lanes a_o_sizes a_o_items a_o_movedItems o_taped o_at o_wrong o_level o_noRings o_noTones o_noFuel o_pieces o_drags o_all o_noPieces o_noDrags o_kept o_sets o_ringFar o_ringTone o_code o_cellAt o_courseAt o_paceAt o_turnsAt o_slowAt o_fuelAt o_ringAt) → va_S A s.heap H locs → ∀ (ls : Array Slot), lv_has ls 1 [(0, .ref h_o)] → okP (f_X7_goesOn_B27 y0 o_level o_noRings o_noTones o_noFuel o_sets o_ringFar o_ringTone o_code o_cellAt o_courseAt o_paceAt o_turnsAt o_slowAt o_fuelAt o_ringAt) post → W p l e (headSpec wsX7_goesOn rm_X7_goesOn).room s m ([.ref h_o] : List Value).toArray below meth c H locs 0 0 Q (F0 m 27 ls [.int y0, .ref h_o]) := by
    intro y0 o_level o_code o_cellAt o_courseAt o_paceAt o_turnsAt o_slowAt o_fuelAt o_ringAt H locs hP hD hS ls hl hw
    unfold f_X7_goesOn_B27 at hw
    refine va_put (D := (dC, dI)) (ci := 7) (v := .int y0) (ty := .int) (C := RX7) (T := TX7) (N := 42) hx hb hts hi7 tyX7 tyX7_ok nmX7 hown hK hP hD hS 0 rfl rfl 21 (by decide) hq0 (fun _ h9 => h9) rfl (by decide +kernel) rfl rfl (Nat.le_of_ble_eq_true rfl) dX7_goesOn_27 (fun H locs hP hD hS => ?_)
    have hP : va_P (dC, dI) vwCl (W_X7_goesOn cyI cyJ cyO h_o a_o_sets a_o_ringFar a_o_ringTone a_o_currents a_o_warmths a_o_depths a_o_tape a_o_readFar a_o_readTone a_o_readSea a_o_code a_o_cellAt a_o_courseAt a_o_paceAt a_o_turnsAt a_o_slowAt a_o_fuelAt a_o_ringAt a_o_pieceParts a_o_dragCell a_o_dragBy a_o_sums a_o_shares a_o_keptFar a_o_image a_o_lanes a_o_sizes a_o_items a_o_movedItems o_taped o_at o_wrong y0 o_noRings o_noTones o_noFuel o_pieces o_drags o_all o_noPieces o_noDrags o_kept o_sets o_ringFar o_ringTone o_code o_cellAt o_courseAt o_paceAt o_turnsAt o_slowAt o_fuelAt o_ringAt) H := hP
    have hD : va_D A (W_X7_goesOn cyI cyJ cyO h_o a_o_sets a_o_ringFar a_o_ringTone a_o_currents a_o_warmths a_o_depths a_o_tape a_o_readFar a_o_readTone a_o_readSea a_o_code a_o_cellAt a_o_courseAt a_o_paceAt a_o_turnsAt a_o_slowAt a_o_fuelAt a_o_ringAt a_o_pieceParts a_o_dragCell a_o_dragBy a_o_sums a_o_shares a_o_keptFar a_o_image a_o_lanes a_o_sizes a_o_items a_o_movedItems o_taped o_at o_wrong y0 o_noRings o_noTones o_noFuel o_pieces o_drags o_all o_noPieces o_noDrags o_kept o_sets o_ringFar o_ringTone o_code o_cellAt o_courseAt o_paceAt o_turnsAt o_slowAt o_fuelAt o_ringAt) := hD
    exact w30 FU y0 o_code o_cellAt o_courseAt o_paceAt o_turnsAt o_slowAt o_fuelAt o_ringAt _ _ hP hD hS _ (lv_sub hl [0] rfl) hw
  unfold f_X7_goesOn at hw
  have hP : va_P (dC, dI) vwCl (W_X7_goesOn cyI cyJ cyO h_o a_o_sets a_o_ringFar a_o_ringTone a_o_currents a_o_warmths a_o_depths a_o_tape a_o_readFar a_o_readTone a_o_readSea a_o_code a_o_cellAt a_o_courseAt a_o_paceAt a_o_turnsAt a_o_slowAt a_o_fuelAt a_o_ringAt a_o_pieceParts a_o_dragCell a_o_dragBy a_o_sums a_o_shares a_o_keptFar a_o_image a_o_lanes a_o_sizes a_o_items a_o_movedItems o_taped o_at o_wrong o_level o_noRings o_noTones o_noFuel o_pieces o_drags o_all o_noPieces o_noDrags o_kept o_sets o_ringFar o_ringTone o_code o_cellAt o_courseAt o_paceAt o_turnsAt o_slowAt o_fuelAt o_ringAt) s.heap := hP
  obtain ⟨H, hH⟩ : ∃ H, H = s.heap := ⟨_, rfl⟩
  obtain ⟨locs, hlo⟩ : ∃ x : List Loc, x = [] := ⟨_, rfl⟩
  have hP : va_P (dC, dI) vwCl (W_X7_goesOn cyI cyJ cyO h_o a_o_sets a_o_ringFar a_o_ringTone a_o_currents a_o_warmths a_o_depths a_o_tape a_o_readFar a_o_readTone a_o_readSea a_o_code a_o_cellAt a_o_courseAt a_o_paceAt a_o_turnsAt a_o_slowAt a_o_fuelAt a_o_ringAt a_o_pieceParts a_o_dragCell a_o_dragBy a_o_sums a_o_shares a_o_keptFar a_o_image a_o_lanes a_o_sizes a_o_items a_o_movedItems o_taped o_at o_wrong o_level o_noRings o_noTones o_noFuel o_pieces o_drags o_all o_noPieces o_noDrags o_kept o_sets o_ringFar o_ringTone o_code o_cellAt o_courseAt o_paceAt o_turnsAt o_slowAt o_fuelAt o_ringAt) H := by rw [hH]; exact hP
  have hS : va_S A s.heap H locs := by rw [hH, hlo]; exact hS
  refine kH hH hlo ?_
  clear hH hlo
  refine lv_aload_n hx hb dX7_goesOn_0 rfl (lv_at hl 0 rfl) ?_
  refine lv_aload_n hx hb dX7_goesOn_1 rfl (lv_at hl 0 rfl) ?_
  refine va_get (D := (dC, dI)) (ci := 7) (v := .int o_level) (C := RX7) (T := TX7) (N := 42) hx hb hts hi7 hown hK hP 0 rfl rfl 21 (by decide) hq0 (fun _ h9 => h9) rfl dX7_goesOn_2 ?_
  refine lv_aload_n hx hb dX7_goesOn_5 rfl (lv_at hl 0 rfl) ?_
  refine va_get (D := (dC, dI)) (ci := 7) (v := .ref a_o_sets) (C := RX7) (T := TX7) (N := 42) hx hb hts hi7 hown hK hP 0 rfl rfl 0 (by decide) hq3 (fun _ h9 => h9) rfl dX7_goesOn_6 ?_
  refine lv_iconst (v := 2) hx hb dX7_goesOn_9 (by decide) ?_
  refine va_iald (i := 2) hx hb hK hP 1 0 rfl rfl (show ¬ _ by decide) dX7_goesOn_10 ?_
  refine lv_icmp_ne (tgt := 23) hx hb dX7_goesOn_11 (by decide) (fun c_22 => ?_) (fun c_22 => ?_)
  · replace hw := okF hw c_22
    clear c_22
    refine lv_aload_n hx hb dX7_goesOn_23 rfl (lv_at hl 0 rfl) ?_
    refine va_get (D := (dC, dI)) (ci := 7) (v := .int o_level) (C := RX7) (T := TX7) (N := 42) hx hb hts hi7 hown hK hP 0 rfl rfl 21 (by decide) hq0 (fun _ h9 => h9) rfl dX7_goesOn_24 ?_
    exact w27 o_level o_level o_code o_cellAt o_courseAt o_paceAt o_turnsAt o_slowAt o_fuelAt o_ringAt _ _ hP hD hS _ (lv_sub hl [0] rfl) hw
  · replace hw := okT hw c_22
    clear c_22
    refine lv_aload_n hx hb dX7_goesOn_14 rfl (lv_at hl 0 rfl) ?_
    refine va_get (D := (dC, dI)) (ci := 7) (v := .int o_level) (C := RX7) (T := TX7) (N := 42) hx hb hts hi7 hown hK hP 0 rfl rfl 21 (by decide) hq0 (fun _ h9 => h9) rfl dX7_goesOn_15 ?_
    refine lv_iconst (v := 1) hx hb dX7_goesOn_18 (by decide) ?_
    refine lv_isub hx hb dX7_goesOn_19 ?_
    refine lv_goto (tgt := 27) hx hb dX7_goesOn_20 (by decide) ?_
    exact w27 (o_level - 1) o_level o_code o_cellAt o_courseAt o_paceAt o_turnsAt o_slowAt o_fuelAt o_ringAt _ _ hP hD hS _ (lv_sub hl [0] rfl) hw
/-! ===== X7_heavy ===== -/
theorem dX7_heavy_0 : decode cX7_heavy 0 = .ok (.aload_n 0, 1) := by decide +kernel
theorem dX7_heavy_1 : decode cX7_heavy 1 = .ok (.getfield 7, 3) := by decide +kernel
theorem dX7_heavy_4 : decode cX7_heavy 4 = .ok (.iconst 2, 1) := by decide +kernel
theorem dX7_heavy_5 : decode cX7_heavy 5 = .ok (.iaload, 1) := by decide +kernel
theorem dX7_heavy_6 : decode cX7_heavy 6 = .ok (.istore_n 1, 1) := by decide +kernel
theorem dX7_heavy_7 : decode cX7_heavy 7 = .ok (.bipush 32, 2) := by decide +kernel
theorem dX7_heavy_9 : decode cX7_heavy 9 = .ok (.istore_n 2, 1) := by decide +kernel
theorem dX7_heavy_10 : decode cX7_heavy 10 = .ok (.iconst 0, 1) := by decide +kernel
theorem dX7_heavy_11 : decode cX7_heavy 11 = .ok (.istore_n 3, 1) := by decide +kernel
theorem dX7_heavy_12 : decode cX7_heavy 12 = .ok (.iload_n 3, 1) := by decide +kernel
theorem dX7_heavy_13 : decode cX7_heavy 13 = .ok (.aload_n 0, 1) := by decide +kernel
theorem dX7_heavy_14 : decode cX7_heavy 14 = .ok (.getfield 52, 3) := by decide +kernel
theorem dX7_heavy_17 : decode cX7_heavy 17 = .ok (.iload_n 1, 1) := by decide +kernel
theorem dX7_heavy_18 : decode cX7_heavy 18 = .ok (.iaload, 1) := by decide +kernel
theorem dX7_heavy_19 : decode cX7_heavy 19 = .ok (.if_icmp .ge 13, 3) := by decide +kernel
theorem dX7_heavy_22 : decode cX7_heavy 22 = .ok (.iload_n 2, 1) := by decide +kernel
theorem dX7_heavy_23 : decode cX7_heavy 23 = .ok (.iconst 4, 1) := by decide +kernel
theorem dX7_heavy_24 : decode cX7_heavy 24 = .ok (.idiv, 1) := by decide +kernel
theorem dX7_heavy_25 : decode cX7_heavy 25 = .ok (.istore_n 2, 1) := by decide +kernel
theorem dX7_heavy_26 : decode cX7_heavy 26 = .ok (.iinc 3 1, 3) := by decide +kernel
theorem dX7_heavy_29 : decode cX7_heavy 29 = .ok (.goto (-17), 3) := by decide +kernel
theorem dX7_heavy_32 : decode cX7_heavy 32 = .ok (.iload_n 2, 1) := by decide +kernel
theorem dX7_heavy_33 : decode cX7_heavy 33 = .ok (.aload_n 0, 1) := by decide +kernel
theorem dX7_heavy_34 : decode cX7_heavy 34 = .ok (.getfield 55, 3) := by decide +kernel
theorem dX7_heavy_37 : decode cX7_heavy 37 = .ok (.iload_n 1, 1) := by decide +kernel
theorem dX7_heavy_38 : decode cX7_heavy 38 = .ok (.iaload, 1) := by decide +kernel
theorem dX7_heavy_39 : decode cX7_heavy 39 = .ok (.ifCond .le 7, 3) := by decide +kernel
theorem dX7_heavy_42 : decode cX7_heavy 42 = .ok (.iconst 2, 1) := by decide +kernel
theorem dX7_heavy_43 : decode cX7_heavy 43 = .ok (.goto 4, 3) := by decide +kernel
theorem dX7_heavy_46 : decode cX7_heavy 46 = .ok (.iconst 1, 1) := by decide +kernel
theorem dX7_heavy_47 : decode cX7_heavy 47 = .ok (.idiv, 1) := by decide +kernel
theorem dX7_heavy_48 : decode cX7_heavy 48 = .ok (.aload_n 0, 1) := by decide +kernel
theorem dX7_heavy_49 : decode cX7_heavy 49 = .ok (.getfield 61, 3) := by decide +kernel
theorem dX7_heavy_52 : decode cX7_heavy 52 = .ok (.iload_n 1, 1) := by decide +kernel
theorem dX7_heavy_53 : decode cX7_heavy 53 = .ok (.iaload, 1) := by decide +kernel
theorem dX7_heavy_54 : decode cX7_heavy 54 = .ok (.imul, 1) := by decide +kernel
theorem dX7_heavy_55 : decode cX7_heavy 55 = .ok (.ireturn, 1) := by decide +kernel
abbrev W_X7_heavy (cyI cyJ cyO : ClassId) (h_o a_o_sets a_o_ringFar a_o_ringTone a_o_currents a_o_warmths a_o_depths a_o_tape a_o_readFar a_o_readTone a_o_readSea a_o_code a_o_cellAt a_o_courseAt a_o_paceAt a_o_turnsAt a_o_slowAt a_o_fuelAt a_o_ringAt a_o_pieceParts a_o_dragCell a_o_dragBy a_o_sums a_o_shares a_o_keptFar a_o_image a_o_lanes a_o_sizes a_o_items a_o_movedItems : Nat) (o_taped : Int32) (o_at : Int32) (o_wrong : Int32) (o_level : Int32) (o_noRings : Int32) (o_noTones : Int32) (o_noFuel : Int32) (o_pieces : Int32) (o_drags : Int32) (o_all : Int64) (o_noPieces : Int32) (o_noDrags : Int32) (o_kept : Int32) (o_sets : Nat → Int32) (o_turnsAt : Nat → Int32) (o_slowAt : Nat → Int32) (o_ringAt : Nat → Int32) : va_W := [(h_o, .inr (7, [.ref a_o_sets, .ref a_o_ringFar, .ref a_o_ringTone, .ref a_o_currents, .ref a_o_warmths, .ref a_o_depths, .ref a_o_tape, .int o_taped, .int o_at, .int o_wrong, .ref a_o_readFar, .ref a_o_readTone, .ref a_o_readSea, .ref a_o_code, .ref a_o_cellAt, .ref a_o_courseAt, .ref a_o_paceAt, .ref a_o_turnsAt, .ref a_o_slowAt, .ref a_o_fuelAt, .ref a_o_ringAt, .int o_level, .int o_noRings, .int o_noTones, .int o_noFuel, .int o_pieces, .ref a_o_pieceParts, .int o_drags, .ref a_o_dragCell, .ref a_o_dragBy, .ref a_o_sums, .long o_all, .int o_noPieces, .int o_noDrags, .ref a_o_shares, .ref a_o_keptFar, .ref a_o_image, .int o_kept, .ref a_o_lanes, .ref a_o_sizes, .ref a_o_items, .ref a_o_movedItems])), (a_o_sets, .inl (cyI, 8, .inl o_sets)), (a_o_turnsAt, .inl (cyI, 7, .inl o_turnsAt)), (a_o_slowAt, .inl (cyI, 7, .inl o_slowAt)), (a_o_ringAt, .inl (cyI, 7, .inl o_ringAt))]
def f_X7_heavy_B47 (v1 : Int32) (y0 : Int32) (y1 : Int32) (o_sets : Nat → Int32) (o_turnsAt : Nat → Int32) (o_slowAt : Nat → Int32) (o_ringAt : Nat → Int32) : Option (Int32) :=
  chk (¬ y0 = 0) <|
  chk (¬ (v1 < 0 ∨ 7 ≤ v1.toNatClampNeg)) <|
  some ((y1 / y0) * (o_ringAt v1.toNatClampNeg))
def f_X7_heavy_L12b (k12 : Int32 → Int32 → Int32 → (Nat → Int32) → (Nat → Int32) → (Nat → Int32) → (Nat → Int32) → Option (Int32)) (v1 : Int32) (v2 : Int32) (v3 : Int32) (o_sets : Nat → Int32) (o_turnsAt : Nat → Int32) (o_slowAt : Nat → Int32) (o_ringAt : Nat → Int32) : Option (Int32) :=
  chk (¬ (v1 < 0 ∨ 7 ≤ v1.toNatClampNeg)) <|
  if (o_turnsAt v1.toNatClampNeg) ≤ v3 then
    chk (¬ (v1 < 0 ∨ 7 ≤ v1.toNatClampNeg)) <|
    if (o_slowAt v1.toNatClampNeg) ≤ 0 then
      f_X7_heavy_B47 v1 1 v2 o_sets o_turnsAt o_slowAt o_ringAt
    else
      f_X7_heavy_B47 v1 2 v2 o_sets o_turnsAt o_slowAt o_ringAt
  else
    nm (v2 / 4) fun x_1 =>
    nm (v3 + 1) fun x_2 =>
    k12 v1 x_1 x_2 o_sets o_turnsAt o_slowAt o_ringAt
def f_X7_heavy_L12 : Nat → Int32 → Int32 → Int32 → (Nat → Int32) → (Nat → Int32) → (Nat → Int32) → (Nat → Int32) → Option (Int32)
  | 0 => fun _ _ _ _ _ _ _ => none
  | n + 1 => f_X7_heavy_L12b (f_X7_heavy_L12 n)
def f_X7_heavy (o_sets : Nat → Int32) (o_turnsAt : Nat → Int32) (o_slowAt : Nat → Int32) (o_ringAt : Nat → Int32) : Option (Int32) :=
  nm (o_sets 2) fun x_3 =>
  f_X7_heavy_L12 FU x_3 32 0 o_sets o_turnsAt o_slowAt o_ringAt
abbrev rm_X7_heavy : Room := { frames := 0, cells := 0, slots := 0, locals := 0 }
set_option maxRecDepth 100000 in
set_option maxHeartbeats 4000000 in
theorem c_X7_heavy (l : Launch) (dC : Nat → ClassId) (dI : Nat → Nat → Nat) (cyI cyJ cyO : ClassId) (sz : Nat) (h_o a_o_sets a_o_ringFar a_o_ringTone a_o_currents a_o_warmths a_o_depths a_o_tape a_o_readFar a_o_readTone a_o_readSea a_o_code a_o_cellAt a_o_courseAt a_o_paceAt a_o_turnsAt a_o_slowAt a_o_fuelAt a_o_ringAt a_o_pieceParts a_o_dragCell a_o_dragBy a_o_sums a_o_shares a_o_keptFar a_o_image a_o_lanes a_o_sizes a_o_items a_o_movedItems : Nat) (o_taped : Int32) (o_at : Int32) (o_wrong : Int32) (o_level : Int32) (o_noRings : Int32) (o_noTones : Int32) (o_noFuel : Int32) (o_pieces : Int32) (o_drags : Int32) (o_all : Int64) (o_noPieces : Int32) (o_noDrags : Int32) (o_kept : Int32) (o_sets : Nat → Int32) (o_turnsAt : Nat → Int32) (o_slowAt : Nat → Int32) (o_ringAt : Nat → Int32) (post : Int32 → Prop) (hf : okP (f_X7_heavy o_sets o_turnsAt o_slowAt o_ringAt) post) : Ci l (dC, dI) (tyL cyI cyJ cyO) yX7_heavy wsX7_heavy rm_X7_heavy [.ref h_o] sz (W_X7_heavy cyI cyJ cyO h_o a_o_sets a_o_ringFar a_o_ringTone a_o_currents a_o_warmths a_o_depths a_o_tape a_o_readFar a_o_readTone a_o_readSea a_o_code a_o_cellAt a_o_courseAt a_o_paceAt a_o_turnsAt a_o_slowAt a_o_fuelAt a_o_ringAt a_o_pieceParts a_o_dragCell a_o_dragBy a_o_sums a_o_shares a_o_keptFar a_o_image a_o_lanes a_o_sizes a_o_items a_o_movedItems o_taped o_at o_wrong o_level o_noRings o_noTones o_noFuel o_pieces o_drags o_all o_noPieces o_noDrags o_kept o_sets o_turnsAt o_slowAt o_ringAt) zN (fun r (_ : Unit) => post r) (fun _ => (W_X7_heavy cyI cyJ cyO h_o a_o_sets a_o_ringFar a_o_ringTone a_o_currents a_o_warmths a_o_depths a_o_tape a_o_readFar a_o_readTone a_o_readSea a_o_code a_o_cellAt a_o_courseAt a_o_paceAt a_o_turnsAt a_o_slowAt a_o_fuelAt a_o_ringAt a_o_pieceParts a_o_dragCell a_o_dragBy a_o_sums a_o_shares a_o_keptFar a_o_image a_o_lanes a_o_sizes a_o_items a_o_movedItems o_taped o_at o_wrong o_level o_noRings o_noTones o_noFuel o_pieces o_drags o_all o_noPieces o_noDrags o_kept o_sets o_turnsAt o_slowAt o_ringAt)) := by
  refine Met.ofW (cc := cX7_heavy) (maxL := 4) (ret := (some .int)) (by decide) rfl ?_
  intro p e s m args below meth c s₁ B hml hv
  obtain ⟨rfl, hsz, hP, hK, hD0, hZ⟩ := hv
  have hx := B.exec
  have hb := B.bytes
  have hr := B.returns
  have hts := atoms_spec (ws := wsX7_heavy) B.pre
  have hown : s.vm.findClass RX7 = some m.cls := findClass_of_methodNamed B.named
  have hlocks := B.notSynchronized
  subst hsz
  have hD := hD0.self (sz := s.heap.size)
  generalize hAe : va_A (W_X7_heavy cyI cyJ cyO h_o a_o_sets a_o_ringFar a_o_ringTone a_o_currents a_o_warmths a_o_depths a_o_tape a_o_readFar a_o_readTone a_o_readSea a_o_code a_o_cellAt a_o_courseAt a_o_paceAt a_o_turnsAt a_o_slowAt a_o_fuelAt a_o_ringAt a_o_pieceParts a_o_dragCell a_o_dragBy a_o_sums a_o_shares a_o_keptFar a_o_image a_o_lanes a_o_sizes a_o_items a_o_movedItems o_taped o_at o_wrong o_level o_noRings o_noTones o_noFuel o_pieces o_drags o_all o_noPieces o_noDrags o_kept o_sets o_turnsAt o_slowAt o_ringAt) s.heap.size = A at hD hZ ⊢
  have hA : ∀ q : Nat, s.heap.size ≤ q → A q := fun q h => by rw [← hAe]; exact Or.inr h
  clear hAe hD0
  have hS : va_S A s.heap s.heap [] := va_S.rf
  have hl := lv_entry ([.ref h_o]) (n := 4) (Nat.le_of_ble_eq_true rfl)
  rw [lg_entry_eq]
  generalize (lg_sl ([.ref h_o]) ++ List.replicate (4 - (lg_sl ([.ref h_o])).length) Slot.unset).toArray = ls at hl ⊢
  have hl : lv_has ls 4 [(0, .ref h_o)] := hl
  refine kW (fun Q hQ => ?_)
  have hq0 := hts _ (List.mem_cons_of_mem _ q_726)
  have hi7 : ∀ w ∈ u_ws RX7 TX7 42, w ∈ wsX7_heavy := fun w h => List.mem_cons_of_mem _ (inX7 w h)
  have hq2 := hts _ (List.mem_cons_of_mem _ q_723)
  have hq3 := hts _ (List.mem_cons_of_mem _ q_724)
  have hq4 := hts _ (List.mem_cons_of_mem _ q_706)
  have hw := hf
  have w47 : ∀ (v1 : Int32) (y0 : Int32) (y1 : Int32) (H : Heap) (locs : List Loc), va_P (dC, dI) vwCl (W_X7_heavy cyI cyJ cyO h_o a_o_sets a_o_ringFar a_o_ringTone a_o_currents a_o_warmths a_o_depths a_o_tape a_o_readFar a_o_readTone a_o_readSea a_o_code a_o_cellAt a_o_courseAt a_o_paceAt a_o_turnsAt a_o_slowAt a_o_fuelAt a_o_ringAt a_o_pieceParts a_o_dragCell a_o_dragBy a_o_sums a_o_shares a_o_keptFar a_o_image a_o_lanes a_o_sizes a_o_items a_o_movedItems o_taped o_at o_wrong o_level o_noRings o_noTones o_noFuel o_pieces o_drags o_all o_noPieces o_noDrags o_kept o_sets o_turnsAt o_slowAt o_ringAt) H → va_D A (W_X7_heavy cyI cyJ cyO h_o a_o_sets a_o_ringFar a_o_ringTone a_o_currents a_o_warmths a_o_depths a_o_tape a_o_readFar a_o_readTone a_o_readSea a_o_code a_o_cellAt a_o_courseAt a_o_paceAt a_o_turnsAt a_o_slowAt a_o_fuelAt a_o_ringAt a_o_pieceParts a_o_dragCell a_o_dragBy a_o_sums a_o_shares a_o_keptFar a_o_image a_o_lanes a_o_sizes a_o_items a_o_movedItems o_taped o_at o_wrong o_level o_noRings o_noTones o_noFuel o_pieces o_drags o_all o_noPieces o_noDrags o_kept o_sets o_turnsAt o_slowAt o_ringAt) → va_S A s.heap H locs → ∀ (ls : Array Slot), lv_has ls 4 [(0, .ref h_o), (1, .int v1)] → okP (f_X7_heavy_B47 v1 y0 y1 o_sets o_turnsAt o_slowAt o_ringAt) post → W p l e (headSpec wsX7_heavy rm_X7_heavy).room s m ([.ref h_o] : List Value).toArray below meth c H locs 0 0 Q (F0 m 47 ls [.int y0, .int y1]) := by
    intro v1 y0 y1 H locs hP hD hS ls hl hw
    unfold f_X7_heavy_B47 at hw
    obtain ⟨h_1, hw⟩ := okC hw
    refine lv_idiv hx hb dX7_heavy_47 h_1 ?_
    refine lv_aload_n hx hb dX7_heavy_48 rfl (lv_at hl 0 rfl) ?_
    refine va_get (D := (dC, dI)) (ci := 7) (v := .ref a_o_ringAt) (C := RX7) (T := TX7) (N := 42) hx hb hts hi7 hown hK hP 0 rfl rfl 20 (by decide) hq0 (fun _ h9 => h9) rfl dX7_heavy_49 ?_
    refine lv_iload_n hx hb dX7_heavy_52 rfl (lv_at hl 1 rfl) ?_
    obtain ⟨h_2, hw⟩ := okC hw
    refine va_iald (i := v1) hx hb hK hP 4 0 rfl rfl h_2 dX7_heavy_53 ?_
    refine lv_imul hx hb dX7_heavy_54 ?_
    rw [hQ]
    exact W.iret (v := (y1 / y0) * (o_ringAt v1.toNatClampNeg)) hx hb hr (fun t ht hW => ⟨⟨(y1 / y0) * (o_ringAt v1.toNatClampNeg), (), rfl, okS hw, by rw [ht]; exact hP, va_K.moved hW.alike hK, hD⟩, hS.F ht⟩) hS.2.2 dX7_heavy_55
  have w12 : ∀ (n : Nat), ∀ (v1 : Int32) (v2 : Int32) (v3 : Int32) (H : Heap) (locs : List Loc), va_P (dC, dI) vwCl (W_X7_heavy cyI cyJ cyO h_o a_o_sets a_o_ringFar a_o_ringTone a_o_currents a_o_warmths a_o_depths a_o_tape a_o_readFar a_o_readTone a_o_readSea a_o_code a_o_cellAt a_o_courseAt a_o_paceAt a_o_turnsAt a_o_slowAt a_o_fuelAt a_o_ringAt a_o_pieceParts a_o_dragCell a_o_dragBy a_o_sums a_o_shares a_o_keptFar a_o_image a_o_lanes a_o_sizes a_o_items a_o_movedItems o_taped o_at o_wrong o_level o_noRings o_noTones o_noFuel o_pieces o_drags o_all o_noPieces o_noDrags o_kept o_sets o_turnsAt o_slowAt o_ringAt) H → va_D A (W_X7_heavy cyI cyJ cyO h_o a_o_sets a_o_ringFar a_o_ringTone a_o_currents a_o_warmths a_o_depths a_o_tape a_o_readFar a_o_readTone a_o_readSea a_o_code a_o_cellAt a_o_courseAt a_o_paceAt a_o_turnsAt a_o_slowAt a_o_fuelAt a_o_ringAt a_o_pieceParts a_o_dragCell a_o_dragBy a_o_sums a_o_shares a_o_keptFar a_o_image a_o_lanes a_o_sizes a_o_items a_o_movedItems o_taped o_at o_wrong o_level o_noRings o_noTones o_noFuel o_pieces o_drags o_all o_noPieces o_noDrags o_kept o_sets o_turnsAt o_slowAt o_ringAt) → va_S A s.heap H locs → ∀ (ls : Array Slot), lv_has ls 4 [(0, .ref h_o), (1, .int v1), (2, .int v2), (3, .int v3)] → okP (f_X7_heavy_L12 n v1 v2 v3 o_sets o_turnsAt o_slowAt o_ringAt) post → W p l e (headSpec wsX7_heavy rm_X7_heavy).room s m ([.ref h_o] : List Value).toArray below meth c H locs 0 0 Q (F0 m 12 ls []) := by
    intro n
    induction n with
    | zero =>
      intro v1 v2 v3 H locs hP hD hS ls hl hw
      exact (ok0 hw).elim
    | succ n12 ih12 =>
      intro v1 v2 v3 H locs hP hD hS ls hl hw
      replace hw : okP (f_X7_heavy_L12b (f_X7_heavy_L12 n12) v1 v2 v3 o_sets o_turnsAt o_slowAt o_ringAt) post := hw
      unfold f_X7_heavy_L12b at hw
      refine lv_iload_n hx hb dX7_heavy_12 rfl (lv_at hl 3 rfl) ?_
      refine lv_aload_n hx hb dX7_heavy_13 rfl (lv_at hl 0 rfl) ?_
      refine va_get (D := (dC, dI)) (ci := 7) (v := .ref a_o_turnsAt) (C := RX7) (T := TX7) (N := 42) hx hb hts hi7 hown hK hP 0 rfl rfl 17 (by decide) hq2 (fun _ h9 => h9) rfl dX7_heavy_14 ?_
      refine lv_iload_n hx hb dX7_heavy_17 rfl (lv_at hl 1 rfl) ?_
      obtain ⟨h_3, hw⟩ := okC hw
      refine va_iald (i := v1) hx hb hK hP 2 0 rfl rfl h_3 dX7_heavy_18 ?_
      refine lv_icmp_ge (tgt := 32) hx hb dX7_heavy_19 (by decide) (fun c_4 => ?_) (fun c_4 => ?_)
      · replace hw := okT hw c_4
        clear c_4
        refine lv_iload_n hx hb dX7_heavy_32 rfl (lv_at hl 2 rfl) ?_
        refine lv_aload_n hx hb dX7_heavy_33 rfl (lv_at hl 0 rfl) ?_
        refine va_get (D := (dC, dI)) (ci := 7) (v := .ref a_o_slowAt) (C := RX7) (T := TX7) (N := 42) hx hb hts hi7 hown hK hP 0 rfl rfl 18 (by decide) hq3 (fun _ h9 => h9) rfl dX7_heavy_34 ?_
        refine lv_iload_n hx hb dX7_heavy_37 rfl (lv_at hl 1 rfl) ?_
        obtain ⟨h_5, hw⟩ := okC hw
        refine va_iald (i := v1) hx hb hK hP 3 0 rfl rfl h_5 dX7_heavy_38 ?_
        refine lv_if_le (tgt := 46) hx hb dX7_heavy_39 (by decide) (fun c_6 => ?_) (fun c_6 => ?_)
        · replace hw := okT hw c_6
          clear c_6
          refine lv_iconst (v := 1) hx hb dX7_heavy_46 (by decide) ?_
          exact w47 v1 1 v2 _ _ hP hD hS _ (lv_sub hl [0, 1] rfl) hw
        · replace hw := okF hw c_6
          clear c_6
          refine lv_iconst (v := 2) hx hb dX7_heavy_42 (by decide) ?_
          refine lv_goto (tgt := 47) hx hb dX7_heavy_43 (by decide) ?_
          exact w47 v1 2 v2 _ _ hP hD hS _ (lv_sub hl [0, 1] rfl) hw
      · replace hw := okF hw c_4
        clear c_4
        refine lv_iload_n hx hb dX7_heavy_22 rfl (lv_at hl 2 rfl) ?_
        refine lv_iconst (v := 4) hx hb dX7_heavy_23 (by decide) ?_
        refine lv_idiv hx hb dX7_heavy_24 (by decide) ?_
        refine lv_topi (fun x_7 ex_7 => ?_)
        replace hw := okN ex_7 hw
        clear ex_7
        refine lv_istore_n (lv' := [(2, .int x_7), (0, .ref h_o), (1, .int v1), (3, .int v3)]) hx hb dX7_heavy_25 rfl hl (by decide) rfl (fun ls hl => ?_)
        obtain ⟨x_8, ex_8⟩ : ∃ y : Int32, y = v3 + 1 := ⟨_, rfl⟩
        replace hw := okN ex_8 hw
        refine lv_iinc (v := x_8) (lv' := [(3, .int x_8), (2, .int x_7), (0, .ref h_o), (1, .int v1)]) hx hb dX7_heavy_26 hl (k := 3) rfl (by rw [ex_8]; rfl) (by decide) rfl (fun ls hl => ?_)
        clear ex_8
        refine lv_goto (tgt := 12) hx hb dX7_heavy_29 (by decide) ?_
        exact ih12 v1 x_7 x_8 _ _ hP hD hS _ (lv_sub hl [2, 3, 1, 0] rfl) hw
  unfold f_X7_heavy at hw
  have hP : va_P (dC, dI) vwCl (W_X7_heavy cyI cyJ cyO h_o a_o_sets a_o_ringFar a_o_ringTone a_o_currents a_o_warmths a_o_depths a_o_tape a_o_readFar a_o_readTone a_o_readSea a_o_code a_o_cellAt a_o_courseAt a_o_paceAt a_o_turnsAt a_o_slowAt a_o_fuelAt a_o_ringAt a_o_pieceParts a_o_dragCell a_o_dragBy a_o_sums a_o_shares a_o_keptFar a_o_image a_o_lanes a_o_sizes a_o_items a_o_movedItems o_taped o_at o_wrong o_level o_noRings o_noTones o_noFuel o_pieces o_drags o_all o_noPieces o_noDrags o_kept o_sets o_turnsAt o_slowAt o_ringAt) s.heap := hP
  obtain ⟨H, hH⟩ : ∃ H, H = s.heap := ⟨_, rfl⟩
  obtain ⟨locs, hlo⟩ : ∃ x : List Loc, x = [] := ⟨_, rfl⟩
  have hP : va_P (dC, dI) vwCl (W_X7_heavy cyI cyJ cyO h_o a_o_sets a_o_ringFar a_o_ringTone a_o_currents a_o_warmths a_o_depths a_o_tape a_o_readFar a_o_readTone a_o_readSea a_o_code a_o_cellAt a_o_courseAt a_o_paceAt a_o_turnsAt a_o_slowAt a_o_fuelAt a_o_ringAt a_o_pieceParts a_o_dragCell a_o_dragBy a_o_sums a_o_shares a_o_keptFar a_o_image a_o_lanes a_o_sizes a_o_items a_o_movedItems o_taped o_at o_wrong o_level o_noRings o_noTones o_noFuel o_pieces o_drags o_all o_noPieces o_noDrags o_kept o_sets o_turnsAt o_slowAt o_ringAt) H := by rw [hH]; exact hP
  have hS : va_S A s.heap H locs := by rw [hH, hlo]; exact hS
  refine kH hH hlo ?_
  clear hH hlo
  refine lv_aload_n hx hb dX7_heavy_0 rfl (lv_at hl 0 rfl) ?_
  refine va_get (D := (dC, dI)) (ci := 7) (v := .ref a_o_sets) (C := RX7) (T := TX7) (N := 42) hx hb hts hi7 hown hK hP 0 rfl rfl 0 (by decide) hq4 (fun _ h9 => h9) rfl dX7_heavy_1 ?_
  refine lv_iconst (v := 2) hx hb dX7_heavy_4 (by decide) ?_
  refine va_iald (i := 2) hx hb hK hP 1 0 rfl rfl (show ¬ _ by decide) dX7_heavy_5 ?_
  refine lv_topi (fun x_9 ex_9 => ?_)
  replace hw := okN ex_9 hw
  clear ex_9
  refine lv_istore_n (lv' := [(1, .int x_9), (0, .ref h_o)]) hx hb dX7_heavy_6 rfl hl (by decide) rfl (fun ls hl => ?_)
  refine lv_bipush (v := 32) hx hb dX7_heavy_7 (by decide) ?_
  refine lv_istore_n (lv' := [(2, .int 32), (1, .int x_9), (0, .ref h_o)]) hx hb dX7_heavy_9 rfl hl (by decide) rfl (fun ls hl => ?_)
  refine lv_iconst (v := 0) hx hb dX7_heavy_10 (by decide) ?_
  refine lv_istore_n (lv' := [(3, .int 0), (2, .int 32), (1, .int x_9), (0, .ref h_o)]) hx hb dX7_heavy_11 rfl hl (by decide) rfl (fun ls hl => ?_)
  exact w12 FU x_9 32 0 _ _ hP hD hS _ (lv_sub hl [3, 2, 1, 0] rfl) hw
/-! ===== X7_asTold ===== -/
theorem dX7_asTold_0 : decode cX7_asTold 0 = .ok (.aload_n 0, 1) := by decide +kernel
theorem dX7_asTold_1 : decode cX7_asTold 1 = .ok (.iconst 0, 1) := by decide +kernel
theorem dX7_asTold_2 : decode cX7_asTold 2 = .ok (.putfield 167, 3) := by decide +kernel
theorem dX7_asTold_5 : decode cX7_asTold 5 = .ok (.aload_n 0, 1) := by decide +kernel
theorem dX7_asTold_6 : decode cX7_asTold 6 = .ok (.iconst 0, 1) := by decide +kernel
theorem dX7_asTold_7 : decode cX7_asTold 7 = .ok (.putfield 170, 3) := by decide +kernel
theorem dX7_asTold_10 : decode cX7_asTold 10 = .ok (.aload_n 0, 1) := by decide +kernel
theorem dX7_asTold_11 : decode cX7_asTold 11 = .ok (.iconst 0, 1) := by decide +kernel
theorem dX7_asTold_12 : decode cX7_asTold 12 = .ok (.putfield 177, 3) := by decide +kernel
theorem dX7_asTold_15 : decode cX7_asTold 15 = .ok (.return_, 1) := by decide +kernel
abbrev W_X7_asTold (cyI cyJ cyO : ClassId) (h_o a_o_sets a_o_ringFar a_o_ringTone a_o_currents a_o_warmths a_o_depths a_o_tape a_o_readFar a_o_readTone a_o_readSea a_o_code a_o_cellAt a_o_courseAt a_o_paceAt a_o_turnsAt a_o_slowAt a_o_fuelAt a_o_ringAt a_o_pieceParts a_o_dragCell a_o_dragBy a_o_sums a_o_shares a_o_keptFar a_o_image a_o_lanes a_o_sizes a_o_items a_o_movedItems : Nat) (o_taped : Int32) (o_at : Int32) (o_wrong : Int32) (o_level : Int32) (o_noRings : Int32) (o_noTones : Int32) (o_noFuel : Int32) (o_pieces : Int32) (o_drags : Int32) (o_all : Int64) (o_noPieces : Int32) (o_noDrags : Int32) (o_kept : Int32) : va_W := [(h_o, .inr (7, [.ref a_o_sets, .ref a_o_ringFar, .ref a_o_ringTone, .ref a_o_currents, .ref a_o_warmths, .ref a_o_depths, .ref a_o_tape, .int o_taped, .int o_at, .int o_wrong, .ref a_o_readFar, .ref a_o_readTone, .ref a_o_readSea, .ref a_o_code, .ref a_o_cellAt, .ref a_o_courseAt, .ref a_o_paceAt, .ref a_o_turnsAt, .ref a_o_slowAt, .ref a_o_fuelAt, .ref a_o_ringAt, .int o_level, .int o_noRings, .int o_noTones, .int o_noFuel, .int o_pieces, .ref a_o_pieceParts, .int o_drags, .ref a_o_dragCell, .ref a_o_dragBy, .ref a_o_sums, .long o_all, .int o_noPieces, .int o_noDrags, .ref a_o_shares, .ref a_o_keptFar, .ref a_o_image, .int o_kept, .ref a_o_lanes, .ref a_o_sizes, .ref a_o_items, .ref a_o_movedItems]))]
def f_X7_asTold (o_noRings : Int32) (o_noTones : Int32) (o_noFuel : Int32) : Option (Int32 × Int32 × Int32) :=
  some (0, 0, 0)
abbrev rm_X7_asTold : Room := { frames := 0, cells := 0, slots := 0, locals := 0 }
set_option maxRecDepth 100000 in
set_option maxHeartbeats 4000000 in
theorem c_X7_asTold (l : Launch) (dC : Nat → ClassId) (dI : Nat → Nat → Nat) (cyI cyJ cyO : ClassId) (sz : Nat) (h_o a_o_sets a_o_ringFar a_o_ringTone a_o_currents a_o_warmths a_o_depths a_o_tape a_o_readFar a_o_readTone a_o_readSea a_o_code a_o_cellAt a_o_courseAt a_o_paceAt a_o_turnsAt a_o_slowAt a_o_fuelAt a_o_ringAt a_o_pieceParts a_o_dragCell a_o_dragBy a_o_sums a_o_shares a_o_keptFar a_o_image a_o_lanes a_o_sizes a_o_items a_o_movedItems : Nat) (o_taped : Int32) (o_at : Int32) (o_wrong : Int32) (o_level : Int32) (o_noRings : Int32) (o_noTones : Int32) (o_noFuel : Int32) (o_pieces : Int32) (o_drags : Int32) (o_all : Int64) (o_noPieces : Int32) (o_noDrags : Int32) (o_kept : Int32) (post : (Int32 × Int32 × Int32) → Prop) (hf : okP (f_X7_asTold o_noRings o_noTones o_noFuel) post) : Cv l (dC, dI) (tyL cyI cyJ cyO) yX7_asTold wsX7_asTold rm_X7_asTold [.ref h_o] sz (W_X7_asTold cyI cyJ cyO h_o a_o_sets a_o_ringFar a_o_ringTone a_o_currents a_o_warmths a_o_depths a_o_tape a_o_readFar a_o_readTone a_o_readSea a_o_code a_o_cellAt a_o_courseAt a_o_paceAt a_o_turnsAt a_o_slowAt a_o_fuelAt a_o_ringAt a_o_pieceParts a_o_dragCell a_o_dragBy a_o_sums a_o_shares a_o_keptFar a_o_image a_o_lanes a_o_sizes a_o_items a_o_movedItems o_taped o_at o_wrong o_level o_noRings o_noTones o_noFuel o_pieces o_drags o_all o_noPieces o_noDrags o_kept) zN (fun u => post u) (fun u => (W_X7_asTold cyI cyJ cyO h_o a_o_sets a_o_ringFar a_o_ringTone a_o_currents a_o_warmths a_o_depths a_o_tape a_o_readFar a_o_readTone a_o_readSea a_o_code a_o_cellAt a_o_courseAt a_o_paceAt a_o_turnsAt a_o_slowAt a_o_fuelAt a_o_ringAt a_o_pieceParts a_o_dragCell a_o_dragBy a_o_sums a_o_shares a_o_keptFar a_o_image a_o_lanes a_o_sizes a_o_items a_o_movedItems o_taped o_at o_wrong o_level u.1 u.2.1 u.2.2 o_pieces o_drags o_all o_noPieces o_noDrags o_kept)) := by
  refine Met.ofW (cc := cX7_asTold) (maxL := 1) (ret := none) (by decide) rfl ?_
  intro p e s m args below meth c s₁ B hml hv
  obtain ⟨rfl, hsz, hP, hK, hD0, hZ⟩ := hv
  have hx := B.exec
  have hb := B.bytes
  have hr := B.returns
  have hts := atoms_spec (ws := wsX7_asTold) B.pre
  have hown : s.vm.findClass RX7 = some m.cls := findClass_of_methodNamed B.named
  have hlocks := B.notSynchronized
  subst hsz
  have hD := hD0.self (sz := s.heap.size)
  generalize hAe : va_A (W_X7_asTold cyI cyJ cyO h_o a_o_sets a_o_ringFar a_o_ringTone a_o_currents a_o_warmths a_o_depths a_o_tape a_o_readFar a_o_readTone a_o_readSea a_o_code a_o_cellAt a_o_courseAt a_o_paceAt a_o_turnsAt a_o_slowAt a_o_fuelAt a_o_ringAt a_o_pieceParts a_o_dragCell a_o_dragBy a_o_sums a_o_shares a_o_keptFar a_o_image a_o_lanes a_o_sizes a_o_items a_o_movedItems o_taped o_at o_wrong o_level o_noRings o_noTones o_noFuel o_pieces o_drags o_all o_noPieces o_noDrags o_kept) s.heap.size = A at hD hZ ⊢
  have hA : ∀ q : Nat, s.heap.size ≤ q → A q := fun q h => by rw [← hAe]; exact Or.inr h
  clear hAe hD0
  have hS : va_S A s.heap s.heap [] := va_S.rf
  have hl := lv_entry ([.ref h_o]) (n := 1) (Nat.le_of_ble_eq_true rfl)
  rw [lg_entry_eq]
  generalize (lg_sl ([.ref h_o]) ++ List.replicate (1 - (lg_sl ([.ref h_o])).length) Slot.unset).toArray = ls at hl ⊢
  have hl : lv_has ls 1 [(0, .ref h_o)] := hl
  refine kW (fun Q hQ => ?_)
  have hq0 := hts _ (List.mem_cons_of_mem _ q_728)
  have hi7 : ∀ w ∈ u_ws RX7 TX7 42, w ∈ wsX7_asTold := fun w h => List.mem_cons_of_mem _ (inX7 w h)
  have hq2 := hts _ (List.mem_cons_of_mem _ q_729)
  have hq3 := hts _ (List.mem_cons_of_mem _ q_730)
  have hw := hf
  unfold f_X7_asTold at hw
  have hP : va_P (dC, dI) vwCl (W_X7_asTold cyI cyJ cyO h_o a_o_sets a_o_ringFar a_o_ringTone a_o_currents a_o_warmths a_o_depths a_o_tape a_o_readFar a_o_readTone a_o_readSea a_o_code a_o_cellAt a_o_courseAt a_o_paceAt a_o_turnsAt a_o_slowAt a_o_fuelAt a_o_ringAt a_o_pieceParts a_o_dragCell a_o_dragBy a_o_sums a_o_shares a_o_keptFar a_o_image a_o_lanes a_o_sizes a_o_items a_o_movedItems o_taped o_at o_wrong o_level o_noRings o_noTones o_noFuel o_pieces o_drags o_all o_noPieces o_noDrags o_kept) s.heap := hP
  obtain ⟨H, hH⟩ : ∃ H, H = s.heap := ⟨_, rfl⟩
  obtain ⟨locs, hlo⟩ : ∃ x : List Loc, x = [] := ⟨_, rfl⟩
  have hP : va_P (dC, dI) vwCl (W_X7_asTold cyI cyJ cyO h_o a_o_sets a_o_ringFar a_o_ringTone a_o_currents a_o_warmths a_o_depths a_o_tape a_o_readFar a_o_readTone a_o_readSea a_o_code a_o_cellAt a_o_courseAt a_o_paceAt a_o_turnsAt a_o_slowAt a_o_fuelAt a_o_ringAt a_o_pieceParts a_o_dragCell a_o_dragBy a_o_sums a_o_shares a_o_keptFar a_o_image a_o_lanes a_o_sizes a_o_items a_o_movedItems o_taped o_at o_wrong o_level o_noRings o_noTones o_noFuel o_pieces o_drags o_all o_noPieces o_noDrags o_kept) H := by rw [hH]; exact hP
  have hS : va_S A s.heap H locs := by rw [hH, hlo]; exact hS
  refine kH hH hlo ?_
  clear hH hlo
  refine lv_aload_n hx hb dX7_asTold_0 rfl (lv_at hl 0 rfl) ?_
  refine lv_iconst (v := 0) hx hb dX7_asTold_1 (by decide) ?_
  refine va_put (D := (dC, dI)) (ci := 7) (v := .int 0) (ty := .int) (C := RX7) (T := TX7) (N := 42) hx hb hts hi7 tyX7 tyX7_ok nmX7 hown hK hP hD hS 0 rfl rfl 22 (by decide) hq0 (fun _ h9 => h9) rfl (by decide +kernel) rfl rfl (Nat.le_of_ble_eq_true rfl) dX7_asTold_2 (fun H locs hP hD hS => ?_)
  have hP : va_P (dC, dI) vwCl (W_X7_asTold cyI cyJ cyO h_o a_o_sets a_o_ringFar a_o_ringTone a_o_currents a_o_warmths a_o_depths a_o_tape a_o_readFar a_o_readTone a_o_readSea a_o_code a_o_cellAt a_o_courseAt a_o_paceAt a_o_turnsAt a_o_slowAt a_o_fuelAt a_o_ringAt a_o_pieceParts a_o_dragCell a_o_dragBy a_o_sums a_o_shares a_o_keptFar a_o_image a_o_lanes a_o_sizes a_o_items a_o_movedItems o_taped o_at o_wrong o_level 0 o_noTones o_noFuel o_pieces o_drags o_all o_noPieces o_noDrags o_kept) H := hP
  have hD : va_D A (W_X7_asTold cyI cyJ cyO h_o a_o_sets a_o_ringFar a_o_ringTone a_o_currents a_o_warmths a_o_depths a_o_tape a_o_readFar a_o_readTone a_o_readSea a_o_code a_o_cellAt a_o_courseAt a_o_paceAt a_o_turnsAt a_o_slowAt a_o_fuelAt a_o_ringAt a_o_pieceParts a_o_dragCell a_o_dragBy a_o_sums a_o_shares a_o_keptFar a_o_image a_o_lanes a_o_sizes a_o_items a_o_movedItems o_taped o_at o_wrong o_level 0 o_noTones o_noFuel o_pieces o_drags o_all o_noPieces o_noDrags o_kept) := hD
  refine lv_aload_n hx hb dX7_asTold_5 rfl (lv_at hl 0 rfl) ?_
  refine lv_iconst (v := 0) hx hb dX7_asTold_6 (by decide) ?_
  refine va_put (D := (dC, dI)) (ci := 7) (v := .int 0) (ty := .boolean) (C := RX7) (T := TX7) (N := 42) hx hb hts hi7 tyX7 tyX7_ok nmX7 hown hK hP hD hS 0 rfl rfl 23 (by decide) hq2 (fun _ h9 => h9) rfl (by decide +kernel) rfl rfl (Nat.le_of_ble_eq_true rfl) dX7_asTold_7 (fun H locs hP hD hS => ?_)
  have hP : va_P (dC, dI) vwCl (W_X7_asTold cyI cyJ cyO h_o a_o_sets a_o_ringFar a_o_ringTone a_o_currents a_o_warmths a_o_depths a_o_tape a_o_readFar a_o_readTone a_o_readSea a_o_code a_o_cellAt a_o_courseAt a_o_paceAt a_o_turnsAt a_o_slowAt a_o_fuelAt a_o_ringAt a_o_pieceParts a_o_dragCell a_o_dragBy a_o_sums a_o_shares a_o_keptFar a_o_image a_o_lanes a_o_sizes a_o_items a_o_movedItems o_taped o_at o_wrong o_level 0 0 o_noFuel o_pieces o_drags o_all o_noPieces o_noDrags o_kept) H := hP
  have hD : va_D A (W_X7_asTold cyI cyJ cyO h_o a_o_sets a_o_ringFar a_o_ringTone a_o_currents a_o_warmths a_o_depths a_o_tape a_o_readFar a_o_readTone a_o_readSea a_o_code a_o_cellAt a_o_courseAt a_o_paceAt a_o_turnsAt a_o_slowAt a_o_fuelAt a_o_ringAt a_o_pieceParts a_o_dragCell a_o_dragBy a_o_sums a_o_shares a_o_keptFar a_o_image a_o_lanes a_o_sizes a_o_items a_o_movedItems o_taped o_at o_wrong o_level 0 0 o_noFuel o_pieces o_drags o_all o_noPieces o_noDrags o_kept) := hD
  refine lv_aload_n hx hb dX7_asTold_10 rfl (lv_at hl 0 rfl) ?_
  refine lv_iconst (v := 0) hx hb dX7_asTold_11 (by decide) ?_
  refine va_put (D := (dC, dI)) (ci := 7) (v := .int 0) (ty := .boolean) (C := RX7) (T := TX7) (N := 42) hx hb hts hi7 tyX7 tyX7_ok nmX7 hown hK hP hD hS 0 rfl rfl 24 (by decide) hq3 (fun _ h9 => h9) rfl (by decide +kernel) rfl rfl (Nat.le_of_ble_eq_true rfl) dX7_asTold_12 (fun H locs hP hD hS => ?_)
  have hP : va_P (dC, dI) vwCl (W_X7_asTold cyI cyJ cyO h_o a_o_sets a_o_ringFar a_o_ringTone a_o_currents a_o_warmths a_o_depths a_o_tape a_o_readFar a_o_readTone a_o_readSea a_o_code a_o_cellAt a_o_courseAt a_o_paceAt a_o_turnsAt a_o_slowAt a_o_fuelAt a_o_ringAt a_o_pieceParts a_o_dragCell a_o_dragBy a_o_sums a_o_shares a_o_keptFar a_o_image a_o_lanes a_o_sizes a_o_items a_o_movedItems o_taped o_at o_wrong o_level 0 0 0 o_pieces o_drags o_all o_noPieces o_noDrags o_kept) H := hP
  have hD : va_D A (W_X7_asTold cyI cyJ cyO h_o a_o_sets a_o_ringFar a_o_ringTone a_o_currents a_o_warmths a_o_depths a_o_tape a_o_readFar a_o_readTone a_o_readSea a_o_code a_o_cellAt a_o_courseAt a_o_paceAt a_o_turnsAt a_o_slowAt a_o_fuelAt a_o_ringAt a_o_pieceParts a_o_dragCell a_o_dragBy a_o_sums a_o_shares a_o_keptFar a_o_image a_o_lanes a_o_sizes a_o_items a_o_movedItems o_taped o_at o_wrong o_level 0 0 0 o_pieces o_drags o_all o_noPieces o_noDrags o_kept) := hD
  rw [hQ]
  exact W.vret hx hb hr (fun t ht hW => ⟨⟨(0, 0, 0), rfl, okS hw, by rw [ht]; exact hP, va_K.moved hW.alike hK, hD⟩, hS.F ht⟩) hS.2.2 dX7_asTold_15
/-! ===== X7_ways ===== -/
theorem dX7_ways_0 : decode cX7_ways 0 = .ok (.aload_n 0, 1) := by decide +kernel
theorem dX7_ways_1 : decode cX7_ways 1 = .ok (.invokevirtual 187, 3) := by decide +kernel
theorem dX7_ways_4 : decode cX7_ways 4 = .ok (.aload_n 0, 1) := by decide +kernel
theorem dX7_ways_5 : decode cX7_ways 5 = .ok (.invokevirtual 190, 3) := by decide +kernel
theorem dX7_ways_8 : decode cX7_ways 8 = .ok (.iconst 0, 1) := by decide +kernel
theorem dX7_ways_9 : decode cX7_ways 9 = .ok (.istore_n 1, 1) := by decide +kernel
theorem dX7_ways_10 : decode cX7_ways 10 = .ok (.aload_n 0, 1) := by decide +kernel
theorem dX7_ways_11 : decode cX7_ways 11 = .ok (.invokevirtual 193, 3) := by decide +kernel
theorem dX7_ways_14 : decode cX7_ways 14 = .ok (.ifCond .eq 9, 3) := by decide +kernel
theorem dX7_ways_17 : decode cX7_ways 17 = .ok (.iinc 1 1, 3) := by decide +kernel
theorem dX7_ways_20 : decode cX7_ways 20 = .ok (.goto (-10), 3) := by decide +kernel
theorem dX7_ways_23 : decode cX7_ways 23 = .ok (.iload_n 1, 1) := by decide +kernel
theorem dX7_ways_24 : decode cX7_ways 24 = .ok (.ireturn, 1) := by decide +kernel
abbrev W_X7_ways (cyI cyJ cyO : ClassId) (h_o a_o_sets a_o_ringFar a_o_ringTone a_o_currents a_o_warmths a_o_depths a_o_tape a_o_readFar a_o_readTone a_o_readSea a_o_code a_o_cellAt a_o_courseAt a_o_paceAt a_o_turnsAt a_o_slowAt a_o_fuelAt a_o_ringAt a_o_pieceParts a_o_dragCell a_o_dragBy a_o_sums a_o_shares a_o_keptFar a_o_image a_o_lanes a_o_sizes a_o_items a_o_movedItems : Nat) (o_taped : Int32) (o_at : Int32) (o_wrong : Int32) (o_level : Int32) (o_noRings : Int32) (o_noTones : Int32) (o_noFuel : Int32) (o_pieces : Int32) (o_drags : Int32) (o_all : Int64) (o_noPieces : Int32) (o_noDrags : Int32) (o_kept : Int32) (o_sets : Nat → Int32) (o_ringFar : Nat → Int32) (o_ringTone : Nat → Int32) (o_code : Nat → Int32) (o_cellAt : Nat → Int32) (o_courseAt : Nat → Int32) (o_paceAt : Nat → Int32) (o_turnsAt : Nat → Int32) (o_slowAt : Nat → Int32) (o_fuelAt : Nat → Int32) (o_ringAt : Nat → Int32) : va_W := [(h_o, .inr (7, [.ref a_o_sets, .ref a_o_ringFar, .ref a_o_ringTone, .ref a_o_currents, .ref a_o_warmths, .ref a_o_depths, .ref a_o_tape, .int o_taped, .int o_at, .int o_wrong, .ref a_o_readFar, .ref a_o_readTone, .ref a_o_readSea, .ref a_o_code, .ref a_o_cellAt, .ref a_o_courseAt, .ref a_o_paceAt, .ref a_o_turnsAt, .ref a_o_slowAt, .ref a_o_fuelAt, .ref a_o_ringAt, .int o_level, .int o_noRings, .int o_noTones, .int o_noFuel, .int o_pieces, .ref a_o_pieceParts, .int o_drags, .ref a_o_dragCell, .ref a_o_dragBy, .ref a_o_sums, .long o_all, .int o_noPieces, .int o_noDrags, .ref a_o_shares, .ref a_o_keptFar, .ref a_o_image, .int o_kept, .ref a_o_lanes, .ref a_o_sizes, .ref a_o_items, .ref a_o_movedItems])), (a_o_sets, .inl (cyI, 8, .inl o_sets)), (a_o_ringFar, .inl (cyI, 7, .inl o_ringFar)), (a_o_ringTone, .inl (cyI, 7, .inl o_ringTone)), (a_o_code, .inl (cyI, 7, .inl o_code)), (a_o_cellAt, .inl (cyI, 7, .inl o_cellAt)), (a_o_courseAt, .inl (cyI, 7, .inl o_courseAt)), (a_o_paceAt, .inl (cyI, 7, .inl o_paceAt)), (a_o_turnsAt, .inl (cyI, 7, .inl o_turnsAt)), (a_o_slowAt, .inl (cyI, 7, .inl o_slowAt)), (a_o_fuelAt, .inl (cyI, 7, .inl o_fuelAt)), (a_o_ringAt, .inl (cyI, 7, .inl o_ringAt))]
def f_X7_ways_L10b (k10 : Int32 → Int32 → Int32 → Int32 → Int32 → (Nat → Int32) → (Nat → Int32) → (Nat → Int32) → (Nat → Int32) → (Nat → Int32) → (Nat → Int32) → (Nat → Int32) → (Nat → Int32) → (Nat → Int32) → (Nat → Int32) → (Nat → Int32) → Option (Int32 × Int32 × Int32 × Int32 × Int32 × (Nat → Int32) × (Nat → Int32) × (Nat → Int32) × (Nat → Int32) × (Nat → Int32) × (Nat → Int32) × (Nat → Int32) × (Nat → Int32))) (v1 : Int32) (o_level : Int32) (o_noRings : Int32) (o_noTones : Int32) (o_noFuel : Int32) (o_sets : Nat → Int32) (o_ringFar : Nat → Int32) (o_ringTone : Nat → Int32) (o_code : Nat → Int32) (o_cellAt : Nat → Int32) (o_courseAt : Nat → Int32) (o_paceAt : Nat → Int32) (o_turnsAt : Nat → Int32) (o_slowAt : Nat → Int32) (o_fuelAt : Nat → Int32) (o_ringAt : Nat → Int32) : Option (Int32 × Int32 × Int32 × Int32 × Int32 × (Nat → Int32) × (Nat → Int32) × (Nat → Int32) × (Nat → Int32) × (Nat → Int32) × (Nat → Int32) × (Nat → Int32) × (Nat → Int32)) :=
  bd10 (f_X7_goesOn o_level o_noRings o_noTones o_noFuel o_sets o_ringFar o_ringTone o_code o_cellAt o_courseAt o_paceAt o_turnsAt o_slowAt o_fuelAt o_ringAt) fun r_1 w_2 w_3 w_4 w_5 w_6 w_7 w_8 w_9 w_10 =>
  if r_1 = 0 then
    some (v1, w_2, o_noRings, o_noTones, o_noFuel, w_3, w_4, w_5, w_6, w_7, w_8, w_9, w_10)
  else
    nm (v1 + 1) fun x_11 =>
    k10 x_11 w_2 o_noRings o_noTones o_noFuel o_sets o_ringFar o_ringTone w_3 w_4 w_5 w_6 w_7 w_8 w_9 w_10
def f_X7_ways_L10 : Nat → Int32 → Int32 → Int32 → Int32 → Int32 → (Nat → Int32) → (Nat → Int32) → (Nat → Int32) → (Nat → Int32) → (Nat → Int32) → (Nat → Int32) → (Nat → Int32) → (Nat → Int32) → (Nat → Int32) → (Nat → Int32) → (Nat → Int32) → Option (Int32 × Int32 × Int32 × Int32 × Int32 × (Nat → Int32) × (Nat → Int32) × (Nat → Int32) × (Nat → Int32) × (Nat → Int32) × (Nat → Int32) × (Nat → Int32) × (Nat → Int32))
  | 0 => fun _ _ _ _ _ _ _ _ _ _ _ _ _ _ _ _ => none
  | n + 1 => f_X7_ways_L10b (f_X7_ways_L10 n)
def f_X7_ways (o_level : Int32) (o_noRings : Int32) (o_noTones : Int32) (o_noFuel : Int32) (o_sets : Nat → Int32) (o_ringFar : Nat → Int32) (o_ringTone : Nat → Int32) (o_code : Nat → Int32) (o_cellAt : Nat → Int32) (o_courseAt : Nat → Int32) (o_paceAt : Nat → Int32) (o_turnsAt : Nat → Int32) (o_slowAt : Nat → Int32) (o_fuelAt : Nat → Int32) (o_ringAt : Nat → Int32) : Option (Int32 × Int32 × Int32 × Int32 × Int32 × (Nat → Int32) × (Nat → Int32) × (Nat → Int32) × (Nat → Int32) × (Nat → Int32) × (Nat → Int32) × (Nat → Int32) × (Nat → Int32)) :=
  bd3 (f_X7_asTold o_noRings o_noTones o_noFuel) fun w_12 w_13 w_14 =>
  bd7 (f_X7_begins o_level o_sets o_code o_cellAt o_turnsAt o_slowAt o_fuelAt o_ringAt) fun w_15 w_16 w_17 w_18 w_19 w_20 w_21 =>
  f_X7_ways_L10 FU 0 w_15 w_12 w_13 w_14 o_sets o_ringFar o_ringTone w_16 w_17 o_courseAt o_paceAt w_18 w_19 w_20 w_21
abbrev rm_X7_ways : Room := { frames := 4, cells := 0, slots := 0, locals := 98 }
set_option maxRecDepth 100000 in
set_option maxHeartbeats 4000000 in
theorem c_X7_ways (l : Launch) (dC : Nat → ClassId) (dI : Nat → Nat → Nat) (cyI cyJ cyO : ClassId) (sz : Nat) (h_o a_o_sets a_o_ringFar a_o_ringTone a_o_currents a_o_warmths a_o_depths a_o_tape a_o_readFar a_o_readTone a_o_readSea a_o_code a_o_cellAt a_o_courseAt a_o_paceAt a_o_turnsAt a_o_slowAt a_o_fuelAt a_o_ringAt a_o_pieceParts a_o_dragCell a_o_dragBy a_o_sums a_o_shares a_o_keptFar a_o_image a_o_lanes a_o_sizes a_o_items a_o_movedItems : Nat) (o_taped : Int32) (o_at : Int32) (o_wrong : Int32) (o_level : Int32) (o_noRings : Int32) (o_noTones : Int32) (o_noFuel : Int32) (o_pieces : Int32) (o_drags : Int32) (o_all : Int64) (o_noPieces : Int32) (o_noDrags : Int32) (o_kept : Int32) (o_sets : Nat → Int32) (o_ringFar : Nat → Int32) (o_ringTone : Nat → Int32) (o_code : Nat → Int32) (o_cellAt : Nat → Int32) (o_courseAt : Nat → Int32) (o_paceAt : Nat → Int32) (o_turnsAt : Nat → Int32) (o_slowAt : Nat → Int32) (o_fuelAt : Nat → Int32) (o_ringAt : Nat → Int32) (post : (Int32 × Int32 × Int32 × Int32 × Int32 × (Nat → Int32) × (Nat → Int32) × (Nat → Int32) × (Nat → Int32) × (Nat → Int32) × (Nat → Int32) × (Nat → Int32) × (Nat → Int32)) → Prop) (hf : okP (f_X7_ways o_level o_noRings o_noTones o_noFuel o_sets o_ringFar o_ringTone o_code o_cellAt o_courseAt o_paceAt o_turnsAt o_slowAt o_fuelAt o_ringAt) post) : Ci l (dC, dI) (tyL cyI cyJ cyO) yX7_ways wsX7_ways rm_X7_ways [.ref h_o] sz (W_X7_ways cyI cyJ cyO h_o a_o_sets a_o_ringFar a_o_ringTone a_o_currents a_o_warmths a_o_depths a_o_tape a_o_readFar a_o_readTone a_o_readSea a_o_code a_o_cellAt a_o_courseAt a_o_paceAt a_o_turnsAt a_o_slowAt a_o_fuelAt a_o_ringAt a_o_pieceParts a_o_dragCell a_o_dragBy a_o_sums a_o_shares a_o_keptFar a_o_image a_o_lanes a_o_sizes a_o_items a_o_movedItems o_taped o_at o_wrong o_level o_noRings o_noTones o_noFuel o_pieces o_drags o_all o_noPieces o_noDrags o_kept o_sets o_ringFar o_ringTone o_code o_cellAt o_courseAt o_paceAt o_turnsAt o_slowAt o_fuelAt o_ringAt) zN (fun r u => post (r, u)) (fun u => (W_X7_ways cyI cyJ cyO h_o a_o_sets a_o_ringFar a_o_ringTone a_o_currents a_o_warmths a_o_depths a_o_tape a_o_readFar a_o_readTone a_o_readSea a_o_code a_o_cellAt a_o_courseAt a_o_paceAt a_o_turnsAt a_o_slowAt a_o_fuelAt a_o_ringAt a_o_pieceParts a_o_dragCell a_o_dragBy a_o_sums a_o_shares a_o_keptFar a_o_image a_o_lanes a_o_sizes a_o_items a_o_movedItems o_taped o_at o_wrong u.1 u.2.1 u.2.2.1 u.2.2.2.1 o_pieces o_drags o_all o_noPieces o_noDrags o_kept o_sets o_ringFar o_ringTone u.2.2.2.2.1 u.2.2.2.2.2.1 u.2.2.2.2.2.2.1 u.2.2.2.2.2.2.2.1 u.2.2.2.2.2.2.2.2.1 u.2.2.2.2.2.2.2.2.2.1 u.2.2.2.2.2.2.2.2.2.2.1 u.2.2.2.2.2.2.2.2.2.2.2)) := by
  refine Met.ofW (cc := cX7_ways) (maxL := 2) (ret := (some .int)) (by decide) rfl ?_
  intro p e s m args below meth c s₁ B hml hv
  obtain ⟨rfl, hsz, hP, hK, hD0, hZ⟩ := hv
  have hx := B.exec
  have hb := B.bytes
  have hr := B.returns
  have hts := atoms_spec (ws := wsX7_ways) B.pre
  have hown : s.vm.findClass RX7 = some m.cls := findClass_of_methodNamed B.named
  have hlocks := B.notSynchronized
  subst hsz
  have hD := hD0.self (sz := s.heap.size)
  generalize hAe : va_A (W_X7_ways cyI cyJ cyO h_o a_o_sets a_o_ringFar a_o_ringTone a_o_currents a_o_warmths a_o_depths a_o_tape a_o_readFar a_o_readTone a_o_readSea a_o_code a_o_cellAt a_o_courseAt a_o_paceAt a_o_turnsAt a_o_slowAt a_o_fuelAt a_o_ringAt a_o_pieceParts a_o_dragCell a_o_dragBy a_o_sums a_o_shares a_o_keptFar a_o_image a_o_lanes a_o_sizes a_o_items a_o_movedItems o_taped o_at o_wrong o_level o_noRings o_noTones o_noFuel o_pieces o_drags o_all o_noPieces o_noDrags o_kept o_sets o_ringFar o_ringTone o_code o_cellAt o_courseAt o_paceAt o_turnsAt o_slowAt o_fuelAt o_ringAt) s.heap.size = A at hD hZ ⊢
  have hA : ∀ q : Nat, s.heap.size ≤ q → A q := fun q h => by rw [← hAe]; exact Or.inr h
  clear hAe hD0
  have hS : va_S A s.heap s.heap [] := va_S.rf
  have hl := lv_entry ([.ref h_o]) (n := 2) (Nat.le_of_ble_eq_true rfl)
  rw [lg_entry_eq]
  generalize (lg_sl ([.ref h_o]) ++ List.replicate (2 - (lg_sl ([.ref h_o])).length) Slot.unset).toArray = ls at hl ⊢
  have hl : lv_has ls 2 [(0, .ref h_o)] := hl
  refine kW (fun Q hQ => ?_)
  have hw := hf
  have w10 : ∀ (n : Nat), ∀ (v1 : Int32) (o_level : Int32) (o_noRings : Int32) (o_noTones : Int32) (o_noFuel : Int32) (o_code : Nat → Int32) (o_cellAt : Nat → Int32) (o_courseAt : Nat → Int32) (o_paceAt : Nat → Int32) (o_turnsAt : Nat → Int32) (o_slowAt : Nat → Int32) (o_fuelAt : Nat → Int32) (o_ringAt : Nat → Int32) (H : Heap) (locs : List Loc), va_P (dC, dI) vwCl (W_X7_ways cyI cyJ cyO h_o a_o_sets a_o_ringFar a_o_ringTone a_o_currents a_o_warmths a_o_depths a_o_tape a_o_readFar a_o_readTone a_o_readSea a_o_code a_o_cellAt a_o_courseAt a_o_paceAt a_o_turnsAt a_o_slowAt a_o_fuelAt a_o_ringAt a_o_pieceParts a_o_dragCell a_o_dragBy a_o_sums a_o_shares a_o_keptFar a_o_image a_o_lanes a_o_sizes a_o_items a_o_movedItems o_taped o_at o_wrong o_level o_noRings o_noTones o_noFuel o_pieces o_drags o_all o_noPieces o_noDrags o_kept o_sets o_ringFar o_ringTone o_code o_cellAt o_courseAt o_paceAt o_turnsAt o_slowAt o_fuelAt o_ringAt) H → va_D A (W_X7_ways cyI cyJ cyO h_o a_o_sets a_o_ringFar a_o_ringTone a_o_currents a_o_warmths a_o_depths a_o_tape a_o_readFar a_o_readTone a_o_readSea a_o_code a_o_cellAt a_o_courseAt a_o_paceAt a_o_turnsAt a_o_slowAt a_o_fuelAt a_o_ringAt a_o_pieceParts a_o_dragCell a_o_dragBy a_o_sums a_o_shares a_o_keptFar a_o_image a_o_lanes a_o_sizes a_o_items a_o_movedItems o_taped o_at o_wrong o_level o_noRings o_noTones o_noFuel o_pieces o_drags o_all o_noPieces o_noDrags o_kept o_sets o_ringFar o_ringTone o_code o_cellAt o_courseAt o_paceAt o_turnsAt o_slowAt o_fuelAt o_ringAt) → va_S A s.heap H locs → ∀ (ls : Array Slot), lv_has ls 2 [(0, .ref h_o), (1, .int v1)] → okP (f_X7_ways_L10 n v1 o_level o_noRings o_noTones o_noFuel o_sets o_ringFar o_ringTone o_code o_cellAt o_courseAt o_paceAt o_turnsAt o_slowAt o_fuelAt o_ringAt) post → W p l e (headSpec wsX7_ways rm_X7_ways).room s m ([.ref h_o] : List Value).toArray below meth c H locs 0 0 Q (F0 m 10 ls []) := by
    intro n
    induction n with
    | zero =>
      intro v1 o_level o_noRings o_noTones o_noFuel o_code o_cellAt o_courseAt o_paceAt o_turnsAt o_slowAt o_fuelAt o_ringAt H locs hP hD hS ls hl hw
      exact (ok0 hw).elim
    | succ n10 ih10 =>
      intro v1 o_level o_noRings o_noTones o_noFuel o_code o_cellAt o_courseAt o_paceAt o_turnsAt o_slowAt o_fuelAt o_ringAt H locs hP hD hS ls hl hw
      replace hw : okP (f_X7_ways_L10b (f_X7_ways_L10 n10) v1 o_level o_noRings o_noTones o_noFuel o_sets o_ringFar o_ringTone o_code o_cellAt o_courseAt o_paceAt o_turnsAt o_slowAt o_fuelAt o_ringAt) post := hw
      unfold f_X7_ways_L10b at hw
      refine lv_aload_n hx hb dX7_ways_10 rfl (lv_at hl 0 rfl) ?_
      have hPc := hP.sub (ws' := (W_X7_goesOn cyI cyJ cyO h_o a_o_sets a_o_ringFar a_o_ringTone a_o_currents a_o_warmths a_o_depths a_o_tape a_o_readFar a_o_readTone a_o_readSea a_o_code a_o_cellAt a_o_courseAt a_o_paceAt a_o_turnsAt a_o_slowAt a_o_fuelAt a_o_ringAt a_o_pieceParts a_o_dragCell a_o_dragBy a_o_sums a_o_shares a_o_keptFar a_o_image a_o_lanes a_o_sizes a_o_items a_o_movedItems o_taped o_at o_wrong o_level o_noRings o_noTones o_noFuel o_pieces o_drags o_all o_noPieces o_noDrags o_kept o_sets o_ringFar o_ringTone o_code o_cellAt o_courseAt o_paceAt o_turnsAt o_slowAt o_fuelAt o_ringAt)) [0, 1, 2, 3, 4, 5, 6, 7, 8, 9, 10, 11] rfl
      have hDc := hD.sub (ws' := (W_X7_goesOn cyI cyJ cyO h_o a_o_sets a_o_ringFar a_o_ringTone a_o_currents a_o_warmths a_o_depths a_o_tape a_o_readFar a_o_readTone a_o_readSea a_o_code a_o_cellAt a_o_courseAt a_o_paceAt a_o_turnsAt a_o_slowAt a_o_fuelAt a_o_ringAt a_o_pieceParts a_o_dragCell a_o_dragBy a_o_sums a_o_shares a_o_keptFar a_o_image a_o_lanes a_o_sizes a_o_items a_o_movedItems o_taped o_at o_wrong o_level o_noRings o_noTones o_noFuel o_pieces o_drags o_all o_noPieces o_noDrags o_kept o_sets o_ringFar o_ringTone o_code o_cellAt o_courseAt o_paceAt o_turnsAt o_slowAt o_fuelAt o_ringAt)) [0, 1, 2, 3, 4, 5, 6, 7, 8, 9, 10, 11] (by decide +kernel) rfl
      have hFc := va_free (wc := (W_X7_goesOn cyI cyJ cyO h_o a_o_sets a_o_ringFar a_o_ringTone a_o_currents a_o_warmths a_o_depths a_o_tape a_o_readFar a_o_readTone a_o_readSea a_o_code a_o_cellAt a_o_courseAt a_o_paceAt a_o_turnsAt a_o_slowAt a_o_fuelAt a_o_ringAt a_o_pieceParts a_o_dragCell a_o_dragBy a_o_sums a_o_shares a_o_keptFar a_o_image a_o_lanes a_o_sizes a_o_items a_o_movedItems o_taped o_at o_wrong o_level o_noRings o_noTones o_noFuel o_pieces o_drags o_all o_noPieces o_noDrags o_kept o_sets o_ringFar o_ringTone o_code o_cellAt o_courseAt o_paceAt o_turnsAt o_slowAt o_fuelAt o_ringAt)) hD hS hA [0, 1, 2, 3, 4, 5, 6, 7, 8, 9, 10, 11] rfl
      refine kc_i (wr := []) (va_runV (As := []) (rest := []) ⟨hx, hb, hml, hown, hts⟩ (c_X7_goesOn l dC dI cyI cyJ cyO H.size h_o a_o_sets a_o_ringFar a_o_ringTone a_o_currents a_o_warmths a_o_depths a_o_tape a_o_readFar a_o_readTone a_o_readSea a_o_code a_o_cellAt a_o_courseAt a_o_paceAt a_o_turnsAt a_o_slowAt a_o_fuelAt a_o_ringAt a_o_pieceParts a_o_dragCell a_o_dragBy a_o_sums a_o_shares a_o_keptFar a_o_image a_o_lanes a_o_sizes a_o_items a_o_movedItems o_taped o_at o_wrong o_level o_noRings o_noTones o_noFuel o_pieces o_drags o_all o_noPieces o_noDrags o_kept o_sets o_ringFar o_ringTone o_code o_cellAt o_courseAt o_paceAt o_turnsAt o_slowAt o_fuelAt o_ringAt _ (okb10 hw)) (cwV 0 hts (gdV (fun w h => List.mem_cons_of_mem _ h) q_904 q_906 qs_30 q_8 q_907) rfl rfl rfl (by decide +kernel) ⟨Nat.le_of_ble_eq_true rfl, Nat.le_of_ble_eq_true rfl⟩) ⟨(kpre zN_ok hK hPc hDc trivial hS hFc).1, va_recv hK hP (ci := 7) (q0 := 0) rfl rfl, (kpre zN_ok hK hPc hDc trivial hS hFc).2⟩ rfl rfl hl.1 rfl (lv_room (Nat.le_of_ble_eq_true rfl)) dX7_ways_11 ⟨Nat.le_of_ble_eq_true rfl, Nat.le_of_ble_eq_true rfl⟩) hP hD hS hFc [0, 1, 2, 3, 4, 5, 6, 7, 8, 9, 10, 11] [] rfl rfl (by decide +kernel) (by decide +kernel) (fun r_1 u H locs hw hP hD hS => ?_)
      obtain ⟨w_2, w_3, w_4, w_5, w_6, w_7, w_8, w_9, w_10⟩ := u
      try dsimp only at hw
      have hP : va_P (dC, dI) vwCl (W_X7_ways cyI cyJ cyO h_o a_o_sets a_o_ringFar a_o_ringTone a_o_currents a_o_warmths a_o_depths a_o_tape a_o_readFar a_o_readTone a_o_readSea a_o_code a_o_cellAt a_o_courseAt a_o_paceAt a_o_turnsAt a_o_slowAt a_o_fuelAt a_o_ringAt a_o_pieceParts a_o_dragCell a_o_dragBy a_o_sums a_o_shares a_o_keptFar a_o_image a_o_lanes a_o_sizes a_o_items a_o_movedItems o_taped o_at o_wrong w_2 o_noRings o_noTones o_noFuel o_pieces o_drags o_all o_noPieces o_noDrags o_kept o_sets o_ringFar o_ringTone w_3 w_4 w_5 w_6 w_7 w_8 w_9 w_10) H := hP.sub [0, 1, 2, 3, 4, 5, 6, 7, 8, 9, 10, 11] rfl
      have hD : va_D A (W_X7_ways cyI cyJ cyO h_o a_o_sets a_o_ringFar a_o_ringTone a_o_currents a_o_warmths a_o_depths a_o_tape a_o_readFar a_o_readTone a_o_readSea a_o_code a_o_cellAt a_o_courseAt a_o_paceAt a_o_turnsAt a_o_slowAt a_o_fuelAt a_o_ringAt a_o_pieceParts a_o_dragCell a_o_dragBy a_o_sums a_o_shares a_o_keptFar a_o_image a_o_lanes a_o_sizes a_o_items a_o_movedItems o_taped o_at o_wrong w_2 o_noRings o_noTones o_noFuel o_pieces o_drags o_all o_noPieces o_noDrags o_kept o_sets o_ringFar o_ringTone w_3 w_4 w_5 w_6 w_7 w_8 w_9 w_10) := hD.sub [0, 1, 2, 3, 4, 5, 6, 7, 8, 9, 10, 11] (by decide +kernel) rfl
      clear hPc hDc hFc
      refine lv_if_eq (tgt := 23) hx hb dX7_ways_14 (by decide) (fun c_11 => ?_) (fun c_11 => ?_)
      · replace hw := okT hw c_11
        clear c_11
        refine lv_iload_n hx hb dX7_ways_23 rfl (lv_at hl 1 rfl) ?_
        rw [hQ]
        exact W.iret (v := v1) hx hb hr (fun t ht hW => ⟨⟨v1, (w_2, o_noRings, o_noTones, o_noFuel, w_3, w_4, w_5, w_6, w_7, w_8, w_9, w_10), rfl, okS hw, by rw [ht]; exact hP, va_K.moved hW.alike hK, hD⟩, hS.F ht⟩) hS.2.2 dX7_ways_24
      · replace hw := okF hw c_11
        clear c_11
        obtain ⟨x_12, ex_12⟩ : ∃ y : Int32, y = v1 + 1 := ⟨_, rfl⟩
        replace hw := okN ex_12 hw
        refine lv_iinc (v := x_12) (lv' := [(1, .int x_12), (0, .ref h_o)]) hx hb dX7_ways_17 hl (k := 1) rfl (by rw [ex_12]; rfl) (by decide) rfl (fun ls hl => ?_)
        clear ex_12
        refine lv_goto (tgt := 10) hx hb dX7_ways_20 (by decide) ?_
        exact ih10 x_12 w_2 o_noRings o_noTones o_noFuel w_3 w_4 w_5 w_6 w_7 w_8 w_9 w_10 _ _ hP hD hS _ (lv_sub hl [1, 0] rfl) hw
  unfold f_X7_ways at hw
  have hP : va_P (dC, dI) vwCl (W_X7_ways cyI cyJ cyO h_o a_o_sets a_o_ringFar a_o_ringTone a_o_currents a_o_warmths a_o_depths a_o_tape a_o_readFar a_o_readTone a_o_readSea a_o_code a_o_cellAt a_o_courseAt a_o_paceAt a_o_turnsAt a_o_slowAt a_o_fuelAt a_o_ringAt a_o_pieceParts a_o_dragCell a_o_dragBy a_o_sums a_o_shares a_o_keptFar a_o_image a_o_lanes a_o_sizes a_o_items a_o_movedItems o_taped o_at o_wrong o_level o_noRings o_noTones o_noFuel o_pieces o_drags o_all o_noPieces o_noDrags o_kept o_sets o_ringFar o_ringTone o_code o_cellAt o_courseAt o_paceAt o_turnsAt o_slowAt o_fuelAt o_ringAt) s.heap := hP
  obtain ⟨H, hH⟩ : ∃ H, H = s.heap := ⟨_, rfl⟩
  obtain ⟨locs, hlo⟩ : ∃ x : List Loc, x = [] := ⟨_, rfl⟩
  have hP : va_P (dC, dI) vwCl (W_X7_ways cyI cyJ cyO h_o a_o_sets a_o_ringFar a_o_ringTone a_o_currents a_o_warmths a_o_depths a_o_tape a_o_readFar a_o_readTone a_o_readSea a_o_code a_o_cellAt a_o_courseAt a_o_paceAt a_o_turnsAt a_o_slowAt a_o_fuelAt a_o_ringAt a_o_pieceParts a_o_dragCell a_o_dragBy a_o_sums a_o_shares a_o_keptFar a_o_image a_o_lanes a_o_sizes a_o_items a_o_movedItems o_taped o_at o_wrong o_level o_noRings o_noTones o_noFuel o_pieces o_drags o_all o_noPieces o_noDrags o_kept o_sets o_ringFar o_ringTone o_code o_cellAt o_courseAt o_paceAt o_turnsAt o_slowAt o_fuelAt o_ringAt) H := by rw [hH]; exact hP
  have hS : va_S A s.heap H locs := by rw [hH, hlo]; exact hS
  refine kH hH hlo ?_
  clear hH hlo
  refine lv_aload_n hx hb dX7_ways_0 rfl (lv_at hl 0 rfl) ?_
  have hPc := hP.sub (ws' := (W_X7_asTold cyI cyJ cyO h_o a_o_sets a_o_ringFar a_o_ringTone a_o_currents a_o_warmths a_o_depths a_o_tape a_o_readFar a_o_readTone a_o_readSea a_o_code a_o_cellAt a_o_courseAt a_o_paceAt a_o_turnsAt a_o_slowAt a_o_fuelAt a_o_ringAt a_o_pieceParts a_o_dragCell a_o_dragBy a_o_sums a_o_shares a_o_keptFar a_o_image a_o_lanes a_o_sizes a_o_items a_o_movedItems o_taped o_at o_wrong o_level o_noRings o_noTones o_noFuel o_pieces o_drags o_all o_noPieces o_noDrags o_kept)) [0] rfl
  have hDc := hD.sub (ws' := (W_X7_asTold cyI cyJ cyO h_o a_o_sets a_o_ringFar a_o_ringTone a_o_currents a_o_warmths a_o_depths a_o_tape a_o_readFar a_o_readTone a_o_readSea a_o_code a_o_cellAt a_o_courseAt a_o_paceAt a_o_turnsAt a_o_slowAt a_o_fuelAt a_o_ringAt a_o_pieceParts a_o_dragCell a_o_dragBy a_o_sums a_o_shares a_o_keptFar a_o_image a_o_lanes a_o_sizes a_o_items a_o_movedItems o_taped o_at o_wrong o_level o_noRings o_noTones o_noFuel o_pieces o_drags o_all o_noPieces o_noDrags o_kept)) [0] (by decide +kernel) rfl
  have hFc := va_free (wc := (W_X7_asTold cyI cyJ cyO h_o a_o_sets a_o_ringFar a_o_ringTone a_o_currents a_o_warmths a_o_depths a_o_tape a_o_readFar a_o_readTone a_o_readSea a_o_code a_o_cellAt a_o_courseAt a_o_paceAt a_o_turnsAt a_o_slowAt a_o_fuelAt a_o_ringAt a_o_pieceParts a_o_dragCell a_o_dragBy a_o_sums a_o_shares a_o_keptFar a_o_image a_o_lanes a_o_sizes a_o_items a_o_movedItems o_taped o_at o_wrong o_level o_noRings o_noTones o_noFuel o_pieces o_drags o_all o_noPieces o_noDrags o_kept)) hD hS hA [0] rfl
  refine kc_v (wr := [(a_o_sets, .inl (cyI, 8, .inl o_sets)), (a_o_ringFar, .inl (cyI, 7, .inl o_ringFar)), (a_o_ringTone, .inl (cyI, 7, .inl o_ringTone)), (a_o_code, .inl (cyI, 7, .inl o_code)), (a_o_cellAt, .inl (cyI, 7, .inl o_cellAt)), (a_o_courseAt, .inl (cyI, 7, .inl o_courseAt)), (a_o_paceAt, .inl (cyI, 7, .inl o_paceAt)), (a_o_turnsAt, .inl (cyI, 7, .inl o_turnsAt)), (a_o_slowAt, .inl (cyI, 7, .inl o_slowAt)), (a_o_fuelAt, .inl (cyI, 7, .inl o_fuelAt)), (a_o_ringAt, .inl (cyI, 7, .inl o_ringAt))]) (va_runV (As := []) (rest := []) ⟨hx, hb, hml, hown, hts⟩ (c_X7_asTold l dC dI cyI cyJ cyO H.size h_o a_o_sets a_o_ringFar a_o_ringTone a_o_currents a_o_warmths a_o_depths a_o_tape a_o_readFar a_o_readTone a_o_readSea a_o_code a_o_cellAt a_o_courseAt a_o_paceAt a_o_turnsAt a_o_slowAt a_o_fuelAt a_o_ringAt a_o_pieceParts a_o_dragCell a_o_dragBy a_o_sums a_o_shares a_o_keptFar a_o_image a_o_lanes a_o_sizes a_o_items a_o_movedItems o_taped o_at o_wrong o_level o_noRings o_noTones o_noFuel o_pieces o_drags o_all o_noPieces o_noDrags o_kept _ (okb3 hw)) (cwV 0 hts (gdV (fun w h => List.mem_cons_of_mem _ h) q_896 q_898 qs_28 q_8 q_899) rfl rfl rfl (by decide +kernel) ⟨Nat.le_of_ble_eq_true rfl, Nat.le_of_ble_eq_true rfl⟩) ⟨(kpre zN_ok hK hPc hDc trivial hS hFc).1, va_recv hK hP (ci := 7) (q0 := 0) rfl rfl, (kpre zN_ok hK hPc hDc trivial hS hFc).2⟩ rfl rfl hl.1 rfl (lv_room (Nat.le_of_ble_eq_true rfl)) dX7_ways_1 ⟨Nat.le_of_ble_eq_true rfl, Nat.le_of_ble_eq_true rfl⟩) hP hD hS hFc [0] [1, 2, 3, 4, 5, 6, 7, 8, 9, 10, 11] rfl rfl (by decide +kernel) (by decide +kernel) (fun u H locs hw hP hD hS => ?_)
  obtain ⟨w_13, w_14, w_15⟩ := u
  try dsimp only at hw
  have hP : va_P (dC, dI) vwCl (W_X7_ways cyI cyJ cyO h_o a_o_sets a_o_ringFar a_o_ringTone a_o_currents a_o_warmths a_o_depths a_o_tape a_o_readFar a_o_readTone a_o_readSea a_o_code a_o_cellAt a_o_courseAt a_o_paceAt a_o_turnsAt a_o_slowAt a_o_fuelAt a_o_ringAt a_o_pieceParts a_o_dragCell a_o_dragBy a_o_sums a_o_shares a_o_keptFar a_o_image a_o_lanes a_o_sizes a_o_items a_o_movedItems o_taped o_at o_wrong o_level w_13 w_14 w_15 o_pieces o_drags o_all o_noPieces o_noDrags o_kept o_sets o_ringFar o_ringTone o_code o_cellAt o_courseAt o_paceAt o_turnsAt o_slowAt o_fuelAt o_ringAt) H := hP.sub [11, 0, 1, 2, 3, 4, 5, 6, 7, 8, 9, 10] rfl
  have hD : va_D A (W_X7_ways cyI cyJ cyO h_o a_o_sets a_o_ringFar a_o_ringTone a_o_currents a_o_warmths a_o_depths a_o_tape a_o_readFar a_o_readTone a_o_readSea a_o_code a_o_cellAt a_o_courseAt a_o_paceAt a_o_turnsAt a_o_slowAt a_o_fuelAt a_o_ringAt a_o_pieceParts a_o_dragCell a_o_dragBy a_o_sums a_o_shares a_o_keptFar a_o_image a_o_lanes a_o_sizes a_o_items a_o_movedItems o_taped o_at o_wrong o_level w_13 w_14 w_15 o_pieces o_drags o_all o_noPieces o_noDrags o_kept o_sets o_ringFar o_ringTone o_code o_cellAt o_courseAt o_paceAt o_turnsAt o_slowAt o_fuelAt o_ringAt) := hD.sub [11, 0, 1, 2, 3, 4, 5, 6, 7, 8, 9, 10] (by decide +kernel) rfl
  clear hPc hDc hFc
  refine lv_aload_n hx hb dX7_ways_4 rfl (lv_at hl 0 rfl) ?_
  have hPc := hP.sub (ws' := (W_X7_begins cyI cyJ cyO h_o a_o_sets a_o_ringFar a_o_ringTone a_o_currents a_o_warmths a_o_depths a_o_tape a_o_readFar a_o_readTone a_o_readSea a_o_code a_o_cellAt a_o_courseAt a_o_paceAt a_o_turnsAt a_o_slowAt a_o_fuelAt a_o_ringAt a_o_pieceParts a_o_dragCell a_o_dragBy a_o_sums a_o_shares a_o_keptFar a_o_image a_o_lanes a_o_sizes a_o_items a_o_movedItems o_taped o_at o_wrong o_level w_13 w_14 w_15 o_pieces o_drags o_all o_noPieces o_noDrags o_kept o_sets o_code o_cellAt o_turnsAt o_slowAt o_fuelAt o_ringAt)) [0, 1, 4, 5, 8, 9, 10, 11] rfl
  have hDc := hD.sub (ws' := (W_X7_begins cyI cyJ cyO h_o a_o_sets a_o_ringFar a_o_ringTone a_o_currents a_o_warmths a_o_depths a_o_tape a_o_readFar a_o_readTone a_o_readSea a_o_code a_o_cellAt a_o_courseAt a_o_paceAt a_o_turnsAt a_o_slowAt a_o_fuelAt a_o_ringAt a_o_pieceParts a_o_dragCell a_o_dragBy a_o_sums a_o_shares a_o_keptFar a_o_image a_o_lanes a_o_sizes a_o_items a_o_movedItems o_taped o_at o_wrong o_level w_13 w_14 w_15 o_pieces o_drags o_all o_noPieces o_noDrags o_kept o_sets o_code o_cellAt o_turnsAt o_slowAt o_fuelAt o_ringAt)) [0, 1, 4, 5, 8, 9, 10, 11] (by decide +kernel) rfl
  have hFc := va_free (wc := (W_X7_begins cyI cyJ cyO h_o a_o_sets a_o_ringFar a_o_ringTone a_o_currents a_o_warmths a_o_depths a_o_tape a_o_readFar a_o_readTone a_o_readSea a_o_code a_o_cellAt a_o_courseAt a_o_paceAt a_o_turnsAt a_o_slowAt a_o_fuelAt a_o_ringAt a_o_pieceParts a_o_dragCell a_o_dragBy a_o_sums a_o_shares a_o_keptFar a_o_image a_o_lanes a_o_sizes a_o_items a_o_movedItems o_taped o_at o_wrong o_level w_13 w_14 w_15 o_pieces o_drags o_all o_noPieces o_noDrags o_kept o_sets o_code o_cellAt o_turnsAt o_slowAt o_fuelAt o_ringAt)) hD hS hA [0, 1, 4, 5, 8, 9, 10, 11] rfl
  refine kc_v (wr := [(a_o_ringFar, .inl (cyI, 7, .inl o_ringFar)), (a_o_ringTone, .inl (cyI, 7, .inl o_ringTone)), (a_o_courseAt, .inl (cyI, 7, .inl o_courseAt)), (a_o_paceAt, .inl (cyI, 7, .inl o_paceAt))]) (va_runV (As := []) (rest := []) ⟨hx, hb, hml, hown, hts⟩ (c_X7_begins l dC dI cyI cyJ cyO H.size h_o a_o_sets a_o_ringFar a_o_ringTone a_o_currents a_o_warmths a_o_depths a_o_tape a_o_readFar a_o_readTone a_o_readSea a_o_code a_o_cellAt a_o_courseAt a_o_paceAt a_o_turnsAt a_o_slowAt a_o_fuelAt a_o_ringAt a_o_pieceParts a_o_dragCell a_o_dragBy a_o_sums a_o_shares a_o_keptFar a_o_image a_o_lanes a_o_sizes a_o_items a_o_movedItems o_taped o_at o_wrong o_level w_13 w_14 w_15 o_pieces o_drags o_all o_noPieces o_noDrags o_kept o_sets o_code o_cellAt o_turnsAt o_slowAt o_fuelAt o_ringAt _ (okb7 hw)) (cwV 0 hts (gdV (fun w h => List.mem_cons_of_mem _ h) q_900 q_902 qs_29 q_8 q_903) rfl rfl rfl (by decide +kernel) ⟨Nat.le_of_ble_eq_true rfl, Nat.le_of_ble_eq_true rfl⟩) ⟨(kpre zN_ok hK hPc hDc trivial hS hFc).1, va_recv hK hP (ci := 7) (q0 := 0) rfl rfl, (kpre zN_ok hK hPc hDc trivial hS hFc).2⟩ rfl rfl hl.1 rfl (lv_room (Nat.le_of_ble_eq_true rfl)) dX7_ways_5 ⟨Nat.le_of_ble_eq_true rfl, Nat.le_of_ble_eq_true rfl⟩) hP hD hS hFc [0, 1, 4, 5, 8, 9, 10, 11] [2, 3, 6, 7] rfl rfl (by decide +kernel) (by decide +kernel) (fun u H locs hw hP hD hS => ?_)
  obtain ⟨w_16, w_17, w_18, w_19, w_20, w_21, w_22⟩ := u
  try dsimp only at hw
  have hP : va_P (dC, dI) vwCl (W_X7_ways cyI cyJ cyO h_o a_o_sets a_o_ringFar a_o_ringTone a_o_currents a_o_warmths a_o_depths a_o_tape a_o_readFar a_o_readTone a_o_readSea a_o_code a_o_cellAt a_o_courseAt a_o_paceAt a_o_turnsAt a_o_slowAt a_o_fuelAt a_o_ringAt a_o_pieceParts a_o_dragCell a_o_dragBy a_o_sums a_o_shares a_o_keptFar a_o_image a_o_lanes a_o_sizes a_o_items a_o_movedItems o_taped o_at o_wrong w_16 w_13 w_14 w_15 o_pieces o_drags o_all o_noPieces o_noDrags o_kept o_sets o_ringFar o_ringTone w_17 w_18 o_courseAt o_paceAt w_19 w_20 w_21 w_22) H := hP.sub [4, 5, 0, 1, 6, 7, 2, 3, 8, 9, 10, 11] rfl
  have hD : va_D A (W_X7_ways cyI cyJ cyO h_o a_o_sets a_o_ringFar a_o_ringTone a_o_currents a_o_warmths a_o_depths a_o_tape a_o_readFar a_o_readTone a_o_readSea a_o_code a_o_cellAt a_o_courseAt a_o_paceAt a_o_turnsAt a_o_slowAt a_o_fuelAt a_o_ringAt a_o_pieceParts a_o_dragCell a_o_dragBy a_o_sums a_o_shares a_o_keptFar a_o_image a_o_lanes a_o_sizes a_o_items a_o_movedItems o_taped o_at o_wrong w_16 w_13 w_14 w_15 o_pieces o_drags o_all o_noPieces o_noDrags o_kept o_sets o_ringFar o_ringTone w_17 w_18 o_courseAt o_paceAt w_19 w_20 w_21 w_22) := hD.sub [4, 5, 0, 1, 6, 7, 2, 3, 8, 9, 10, 11] (by decide +kernel) rfl
  clear hPc hDc hFc
  refine lv_iconst (v := 0) hx hb dX7_ways_8 (by decide) ?_
  refine lv_istore_n (lv' := [(1, .int 0), (0, .ref h_o)]) hx hb dX7_ways_9 rfl hl (by decide) rfl (fun ls hl => ?_)
  exact w10 FU 0 w_16 w_13 w_14 w_15 w_17 w_18 o_courseAt o_paceAt w_19 w_20 w_21 w_22 _ _ hP hD hS _ (lv_sub hl [1, 0] rfl) hw
/-! ===== X7_weight ===== -/
theorem dX7_weight_0 : decode cX7_weight 0 = .ok (.aload_n 0, 1) := by decide +kernel
theorem dX7_weight_1 : decode cX7_weight 1 = .ok (.invokevirtual 187, 3) := by decide +kernel
theorem dX7_weight_4 : decode cX7_weight 4 = .ok (.aload_n 0, 1) := by decide +kernel
theorem dX7_weight_5 : decode cX7_weight 5 = .ok (.invokevirtual 190, 3) := by decide +kernel
theorem dX7_weight_8 : decode cX7_weight 8 = .ok (.lconst 0, 1) := by decide +kernel
theorem dX7_weight_9 : decode cX7_weight 9 = .ok (.lstore_n 1, 1) := by decide +kernel
theorem dX7_weight_10 : decode cX7_weight 10 = .ok (.aload_n 0, 1) := by decide +kernel
theorem dX7_weight_11 : decode cX7_weight 11 = .ok (.invokevirtual 193, 3) := by decide +kernel
theorem dX7_weight_14 : decode cX7_weight 14 = .ok (.ifCond .eq 14, 3) := by decide +kernel
theorem dX7_weight_17 : decode cX7_weight 17 = .ok (.lload_n 1, 1) := by decide +kernel
theorem dX7_weight_18 : decode cX7_weight 18 = .ok (.aload_n 0, 1) := by decide +kernel
theorem dX7_weight_19 : decode cX7_weight 19 = .ok (.invokevirtual 196, 3) := by decide +kernel
theorem dX7_weight_22 : decode cX7_weight 22 = .ok (.i2l, 1) := by decide +kernel
theorem dX7_weight_23 : decode cX7_weight 23 = .ok (.ladd, 1) := by decide +kernel
theorem dX7_weight_24 : decode cX7_weight 24 = .ok (.lstore_n 1, 1) := by decide +kernel
theorem dX7_weight_25 : decode cX7_weight 25 = .ok (.goto (-15), 3) := by decide +kernel
theorem dX7_weight_28 : decode cX7_weight 28 = .ok (.lload_n 1, 1) := by decide +kernel
theorem dX7_weight_29 : decode cX7_weight 29 = .ok (.lreturn, 1) := by decide +kernel
abbrev W_X7_weight (cyI cyJ cyO : ClassId) (h_o a_o_sets a_o_ringFar a_o_ringTone a_o_currents a_o_warmths a_o_depths a_o_tape a_o_readFar a_o_readTone a_o_readSea a_o_code a_o_cellAt a_o_courseAt a_o_paceAt a_o_turnsAt a_o_slowAt a_o_fuelAt a_o_ringAt a_o_pieceParts a_o_dragCell a_o_dragBy a_o_sums a_o_shares a_o_keptFar a_o_image a_o_lanes a_o_sizes a_o_items a_o_movedItems : Nat) (o_taped : Int32) (o_at : Int32) (o_wrong : Int32) (o_level : Int32) (o_noRings : Int32) (o_noTones : Int32) (o_noFuel : Int32) (o_pieces : Int32) (o_drags : Int32) (o_all : Int64) (o_noPieces : Int32) (o_noDrags : Int32) (o_kept : Int32) (o_sets : Nat → Int32) (o_ringFar : Nat → Int32) (o_ringTone : Nat → Int32) (o_code : Nat → Int32) (o_cellAt : Nat → Int32) (o_courseAt : Nat → Int32) (o_paceAt : Nat → Int32) (o_turnsAt : Nat → Int32) (o_slowAt : Nat → Int32) (o_fuelAt : Nat → Int32) (o_ringAt : Nat → Int32) : va_W := [(h_o, .inr (7, [.ref a_o_sets, .ref a_o_ringFar, .ref a_o_ringTone, .ref a_o_currents, .ref a_o_warmths, .ref a_o_depths, .ref a_o_tape, .int o_taped, .int o_at, .int o_wrong, .ref a_o_readFar, .ref a_o_readTone, .ref a_o_readSea, .ref a_o_code, .ref a_o_cellAt, .ref a_o_courseAt, .ref a_o_paceAt, .ref a_o_turnsAt, .ref a_o_slowAt, .ref a_o_fuelAt, .ref a_o_ringAt, .int o_level, .int o_noRings, .int o_noTones, .int o_noFuel, .int o_pieces, .ref a_o_pieceParts, .int o_drags, .ref a_o_dragCell, .ref a_o_dragBy, .ref a_o_sums, .long o_all, .int o_noPieces, .int o_noDrags, .ref a_o_shares, .ref a_o_keptFar, .ref a_o_image, .int o_kept, .ref a_o_lanes, .ref a_o_sizes, .ref a_o_items, .ref a_o_movedItems])), (a_o_sets, .inl (cyI, 8, .inl o_sets)), (a_o_ringFar, .inl (cyI, 7, .inl o_ringFar)), (a_o_ringTone, .inl (cyI, 7, .inl o_ringTone)), (a_o_code, .inl (cyI, 7, .inl o_code)), (a_o_cellAt, .inl (cyI, 7, .inl o_cellAt)), (a_o_courseAt, .inl (cyI, 7, .inl o_courseAt)), (a_o_paceAt, .inl (cyI, 7, .inl o_paceAt)), (a_o_turnsAt, .inl (cyI, 7, .inl o_turnsAt)), (a_o_slowAt, .inl (cyI, 7, .inl o_slowAt)), (a_o_fuelAt, .inl (cyI, 7, .inl o_fuelAt)), (a_o_ringAt, .inl (cyI, 7, .inl o_ringAt))]
def f_X7_weight_L10b (k10 : Int64 → Int32 → Int32 → Int32 → Int32 → (Nat → Int32) → (Nat → Int32) → (Nat → Int32) → (Nat → Int32) → (Nat → Int32) → (Nat → Int32) → (Nat → Int32) → (Nat → Int32) → (Nat → Int32) → (Nat → Int32) → (Nat → Int32) → Option (Int64 × Int32 × Int32 × Int32 × Int32 × (Nat → Int32) × (Nat → Int32) × (Nat → Int32) × (Nat → Int32) × (Nat → Int32) × (Nat → Int32) × (Nat → Int32) × (Nat → Int32))) (v1 : Int64) (o_level : Int32) (o_noRings : Int32) (o_noTones : Int32) (o_noFuel : Int32) (o_sets : Nat → Int32) (o_ringFar : Nat → Int32) (o_ringTone : Nat → Int32) (o_code : Nat → Int32) (o_cellAt : Nat → Int32) (o_courseAt : Nat → Int32) (o_paceAt : Nat → Int32) (o_turnsAt : Nat → Int32) (o_slowAt : Nat → Int32) (o_fuelAt : Nat → Int32) (o_ringAt : Nat → Int32) : Option (Int64 × Int32 × Int32 × Int32 × Int32 × (Nat → Int32) × (Nat → Int32) × (Nat → Int32) × (Nat → Int32) × (Nat → Int32) × (Nat → Int32) × (Nat → Int32) × (Nat → Int32)) :=
  bd10 (f_X7_goesOn o_level o_noRings o_noTones o_noFuel o_sets o_ringFar o_ringTone o_code o_cellAt o_courseAt o_paceAt o_turnsAt o_slowAt o_fuelAt o_ringAt) fun r_1 w_2 w_3 w_4 w_5 w_6 w_7 w_8 w_9 w_10 =>
  if r_1 = 0 then
    some (v1, w_2, o_noRings, o_noTones, o_noFuel, w_3, w_4, w_5, w_6, w_7, w_8, w_9, w_10)
  else
    bd1 (f_X7_heavy o_sets w_7 w_8 w_10) fun r_11 =>
    nm (v1 + r_11.toInt64) fun x_12 =>
    k10 x_12 w_2 o_noRings o_noTones o_noFuel o_sets o_ringFar o_ringTone w_3 w_4 w_5 w_6 w_7 w_8 w_9 w_10
def f_X7_weight_L10 : Nat → Int64 → Int32 → Int32 → Int32 → Int32 → (Nat → Int32) → (Nat → Int32) → (Nat → Int32) → (Nat → Int32) → (Nat → Int32) → (Nat → Int32) → (Nat → Int32) → (Nat → Int32) → (Nat → Int32) → (Nat → Int32) → (Nat → Int32) → Option (Int64 × Int32 × Int32 × Int32 × Int32 × (Nat → Int32) × (Nat → Int32) × (Nat → Int32) × (Nat → Int32) × (Nat → Int32) × (Nat → Int32) × (Nat → Int32) × (Nat → Int32))
  | 0 => fun _ _ _ _ _ _ _ _ _ _ _ _ _ _ _ _ => none
  | n + 1 => f_X7_weight_L10b (f_X7_weight_L10 n)
def f_X7_weight (o_level : Int32) (o_noRings : Int32) (o_noTones : Int32) (o_noFuel : Int32) (o_sets : Nat → Int32) (o_ringFar : Nat → Int32) (o_ringTone : Nat → Int32) (o_code : Nat → Int32) (o_cellAt : Nat → Int32) (o_courseAt : Nat → Int32) (o_paceAt : Nat → Int32) (o_turnsAt : Nat → Int32) (o_slowAt : Nat → Int32) (o_fuelAt : Nat → Int32) (o_ringAt : Nat → Int32) : Option (Int64 × Int32 × Int32 × Int32 × Int32 × (Nat → Int32) × (Nat → Int32) × (Nat → Int32) × (Nat → Int32) × (Nat → Int32) × (Nat → Int32) × (Nat → Int32) × (Nat → Int32)) :=
  bd3 (f_X7_asTold o_noRings o_noTones o_noFuel) fun w_13 w_14 w_15 =>
  bd7 (f_X7_begins o_level o_sets o_code o_cellAt o_turnsAt o_slowAt o_fuelAt o_ringAt) fun w_16 w_17 w_18 w_19 w_20 w_21 w_22 =>
  f_X7_weight_L10 FU 0 w_16 w_13 w_14 w_15 o_sets o_ringFar o_ringTone w_17 w_18 o_courseAt o_paceAt w_19 w_20 w_21 w_22
abbrev rm_X7_weight : Room := { frames := 4, cells := 0, slots := 0, locals := 98 }
set_option maxRecDepth 100000 in
set_option maxHeartbeats 4000000 in
theorem c_X7_weight (l : Launch) (dC : Nat → ClassId) (dI : Nat → Nat → Nat) (cyI cyJ cyO : ClassId) (sz : Nat) (h_o a_o_sets a_o_ringFar a_o_ringTone a_o_currents a_o_warmths a_o_depths a_o_tape a_o_readFar a_o_readTone a_o_readSea a_o_code a_o_cellAt a_o_courseAt a_o_paceAt a_o_turnsAt a_o_slowAt a_o_fuelAt a_o_ringAt a_o_pieceParts a_o_dragCell a_o_dragBy a_o_sums a_o_shares a_o_keptFar a_o_image a_o_lanes a_o_sizes a_o_items a_o_movedItems : Nat) (o_taped : Int32) (o_at : Int32) (o_wrong : Int32) (o_level : Int32) (o_noRings : Int32) (o_noTones : Int32) (o_noFuel : Int32) (o_pieces : Int32) (o_drags : Int32) (o_all : Int64) (o_noPieces : Int32) (o_noDrags : Int32) (o_kept : Int32) (o_sets : Nat → Int32) (o_ringFar : Nat → Int32) (o_ringTone : Nat → Int32) (o_code : Nat → Int32) (o_cellAt : Nat → Int32) (o_courseAt : Nat → Int32) (o_paceAt : Nat → Int32) (o_turnsAt : Nat → Int32) (o_slowAt : Nat → Int32) (o_fuelAt : Nat → Int32) (o_ringAt : Nat → Int32) (post : (Int64 × Int32 × Int32 × Int32 × Int32 × (Nat → Int32) × (Nat → Int32) × (Nat → Int32) × (Nat → Int32) × (Nat → Int32) × (Nat → Int32) × (Nat → Int32) × (Nat → Int32)) → Prop) (hf : okP (f_X7_weight o_level o_noRings o_noTones o_noFuel o_sets o_ringFar o_ringTone o_code o_cellAt o_courseAt o_paceAt o_turnsAt o_slowAt o_fuelAt o_ringAt) post) : Cl l (dC, dI) (tyL cyI cyJ cyO) yX7_weight wsX7_weight rm_X7_weight [.ref h_o] sz (W_X7_weight cyI cyJ cyO h_o a_o_sets a_o_ringFar a_o_ringTone a_o_currents a_o_warmths a_o_depths a_o_tape a_o_readFar a_o_readTone a_o_readSea a_o_code a_o_cellAt a_o_courseAt a_o_paceAt a_o_turnsAt a_o_slowAt a_o_fuelAt a_o_ringAt a_o_pieceParts a_o_dragCell a_o_dragBy a_o_sums a_o_shares a_o_keptFar a_o_image a_o_lanes a_o_sizes a_o_items a_o_movedItems o_taped o_at o_wrong o_level o_noRings o_noTones o_noFuel o_pieces o_drags o_all o_noPieces o_noDrags o_kept o_sets o_ringFar o_ringTone o_code o_cellAt o_courseAt o_paceAt o_turnsAt o_slowAt o_fuelAt o_ringAt) zN (fun r u => post (r, u)) (fun u => (W_X7_weight cyI cyJ cyO h_o a_o_sets a_o_ringFar a_o_ringTone a_o_currents a_o_warmths a_o_depths a_o_tape a_o_readFar a_o_readTone a_o_readSea a_o_code a_o_cellAt a_o_courseAt a_o_paceAt a_o_turnsAt a_o_slowAt a_o_fuelAt a_o_ringAt a_o_pieceParts a_o_dragCell a_o_dragBy a_o_sums a_o_shares a_o_keptFar a_o_image a_o_lanes a_o_sizes a_o_items a_o_movedItems o_taped o_at o_wrong u.1 u.2.1 u.2.2.1 u.2.2.2.1 o_pieces o_drags o_all o_noPieces o_noDrags o_kept o_sets o_ringFar o_ringTone u.2.2.2.2.1 u.2.2.2.2.2.1 u.2.2.2.2.2.2.1 u.2.2.2.2.2.2.2.1 u.2.2.2.2.2.2.2.2.1 u.2.2.2.2.2.2.2.2.2.1 u.2.2.2.2.2.2.2.2.2.2.1 u.2.2.2.2.2.2.2.2.2.2.2)) := by
  refine Met.ofW (cc := cX7_weight) (maxL := 3) (ret := (some .long)) (by decide) rfl ?_
  intro p e s m args below meth c s₁ B hml hv
  obtain ⟨rfl, hsz, hP, hK, hD0, hZ⟩ := hv
  have hx := B.exec
  have hb := B.bytes
  have hr := B.returns
  have hts := atoms_spec (ws := wsX7_weight) B.pre
  have hown : s.vm.findClass RX7 = some m.cls := findClass_of_methodNamed B.named
  have hlocks := B.notSynchronized
  subst hsz
  have hD := hD0.self (sz := s.heap.size)
  generalize hAe : va_A (W_X7_weight cyI cyJ cyO h_o a_o_sets a_o_ringFar a_o_ringTone a_o_currents a_o_warmths a_o_depths a_o_tape a_o_readFar a_o_readTone a_o_readSea a_o_code a_o_cellAt a_o_courseAt a_o_paceAt a_o_turnsAt a_o_slowAt a_o_fuelAt a_o_ringAt a_o_pieceParts a_o_dragCell a_o_dragBy a_o_sums a_o_shares a_o_keptFar a_o_image a_o_lanes a_o_sizes a_o_items a_o_movedItems o_taped o_at o_wrong o_level o_noRings o_noTones o_noFuel o_pieces o_drags o_all o_noPieces o_noDrags o_kept o_sets o_ringFar o_ringTone o_code o_cellAt o_courseAt o_paceAt o_turnsAt o_slowAt o_fuelAt o_ringAt) s.heap.size = A at hD hZ ⊢
  have hA : ∀ q : Nat, s.heap.size ≤ q → A q := fun q h => by rw [← hAe]; exact Or.inr h
  clear hAe hD0
  have hS : va_S A s.heap s.heap [] := va_S.rf
  have hl := lv_entry ([.ref h_o]) (n := 3) (Nat.le_of_ble_eq_true rfl)
  rw [lg_entry_eq]
  generalize (lg_sl ([.ref h_o]) ++ List.replicate (3 - (lg_sl ([.ref h_o])).length) Slot.unset).toArray = ls at hl ⊢
  have hl : lv_has ls 3 [(0, .ref h_o)] := hl
  refine kW (fun Q hQ => ?_)
  have hw := hf
  have w10 : ∀ (n : Nat), ∀ (v1 : Int64) (o_level : Int32) (o_noRings : Int32) (o_noTones : Int32) (o_noFuel : Int32) (o_code : Nat → Int32) (o_cellAt : Nat → Int32) (o_courseAt : Nat → Int32) (o_paceAt : Nat → Int32) (o_turnsAt : Nat → Int32) (o_slowAt : Nat → Int32) (o_fuelAt : Nat → Int32) (o_ringAt : Nat → Int32) (H : Heap) (locs : List Loc), va_P (dC, dI) vwCl (W_X7_weight cyI cyJ cyO h_o a_o_sets a_o_ringFar a_o_ringTone a_o_currents a_o_warmths a_o_depths a_o_tape a_o_readFar a_o_readTone a_o_readSea a_o_code a_o_cellAt a_o_courseAt a_o_paceAt a_o_turnsAt a_o_slowAt a_o_fuelAt a_o_ringAt a_o_pieceParts a_o_dragCell a_o_dragBy a_o_sums a_o_shares a_o_keptFar a_o_image a_o_lanes a_o_sizes a_o_items a_o_movedItems o_taped o_at o_wrong o_level o_noRings o_noTones o_noFuel o_pieces o_drags o_all o_noPieces o_noDrags o_kept o_sets o_ringFar o_ringTone o_code o_cellAt o_courseAt o_paceAt o_turnsAt o_slowAt o_fuelAt o_ringAt) H → va_D A (W_X7_weight cyI cyJ cyO h_o a_o_sets a_o_ringFar a_o_ringTone a_o_currents a_o_warmths a_o_depths a_o_tape a_o_readFar a_o_readTone a_o_readSea a_o_code a_o_cellAt a_o_courseAt a_o_paceAt a_o_turnsAt a_o_slowAt a_o_fuelAt a_o_ringAt a_o_pieceParts a_o_dragCell a_o_dragBy a_o_sums a_o_shares a_o_keptFar a_o_image a_o_lanes a_o_sizes a_o_items a_o_movedItems o_taped o_at o_wrong o_level o_noRings o_noTones o_noFuel o_pieces o_drags o_all o_noPieces o_noDrags o_kept o_sets o_ringFar o_ringTone o_code o_cellAt o_courseAt o_paceAt o_turnsAt o_slowAt o_fuelAt o_ringAt) → va_S A s.heap H locs → ∀ (ls : Array Slot), lv_has ls 3 [(0, .ref h_o), (1, .long v1)] → okP (f_X7_weight_L10 n v1 o_level o_noRings o_noTones o_noFuel o_sets o_ringFar o_ringTone o_code o_cellAt o_courseAt o_paceAt o_turnsAt o_slowAt o_fuelAt o_ringAt) post → W p l e (headSpec wsX7_weight rm_X7_weight).room s m ([.ref h_o] : List Value).toArray below meth c H locs 0 0 Q (F0 m 10 ls []) := by
    intro n
    induction n with
    | zero =>
      intro v1 o_level o_noRings o_noTones o_noFuel o_code o_cellAt o_courseAt o_paceAt o_turnsAt o_slowAt o_fuelAt o_ringAt H locs hP hD hS ls hl hw
      exact (ok0 hw).elim
    | succ n10 ih10 =>
      intro v1 o_level o_noRings o_noTones o_noFuel o_code o_cellAt o_courseAt o_paceAt o_turnsAt o_slowAt o_fuelAt o_ringAt H locs hP hD hS ls hl hw
      replace hw : okP (f_X7_weight_L10b (f_X7_weight_L10 n10) v1 o_level o_noRings o_noTones o_noFuel o_sets o_ringFar o_ringTone o_code o_cellAt o_courseAt o_paceAt o_turnsAt o_slowAt o_fuelAt o_ringAt) post := hw
      unfold f_X7_weight_L10b at hw
      refine lv_aload_n hx hb dX7_weight_10 rfl (lv_at hl 0 rfl) ?_
      have hPc := hP.sub (ws' := (W_X7_goesOn cyI cyJ cyO h_o a_o_sets a_o_ringFar a_o_ringTone a_o_currents a_o_warmths a_o_depths a_o_tape a_o_readFar a_o_readTone a_o_readSea a_o_code a_o_cellAt a_o_courseAt a_o_paceAt a_o_turnsAt a_o_slowAt a_o_fuelAt a_o_ringAt a_o_pieceParts a_o_dragCell a_o_dragBy a_o_sums a_o_shares a_o_keptFar a_o_image a_o_lanes a_o_sizes a_o_items a_o_movedItems o_taped o_at o_wrong o_level o_noRings o_noTones o_noFuel o_pieces o_drags o_all o_noPieces o_noDrags o_kept o_sets o_ringFar o_ringTone o_code o_cellAt o_courseAt o_paceAt o_turnsAt o_slowAt o_fuelAt o_ringAt)) [0, 1, 2, 3, 4, 5, 6, 7, 8, 9, 10, 11] rfl
      have hDc := hD.sub (ws' := (W_X7_goesOn cyI cyJ cyO h_o a_o_sets a_o_ringFar a_o_ringTone a_o_currents a_o_warmths a_o_depths a_o_tape a_o_readFar a_o_readTone a_o_readSea a_o_code a_o_cellAt a_o_courseAt a_o_paceAt a_o_turnsAt a_o_slowAt a_o_fuelAt a_o_ringAt a_o_pieceParts a_o_dragCell a_o_dragBy a_o_sums a_o_shares a_o_keptFar a_o_image a_o_lanes a_o_sizes a_o_items a_o_movedItems o_taped o_at o_wrong o_level o_noRings o_noTones o_noFuel o_pieces o_drags o_all o_noPieces o_noDrags o_kept o_sets o_ringFar o_ringTone o_code o_cellAt o_courseAt o_paceAt o_turnsAt o_slowAt o_fuelAt o_ringAt)) [0, 1, 2, 3, 4, 5, 6, 7, 8, 9, 10, 11] (by decide +kernel) rfl
      have hFc := va_free (wc := (W_X7_goesOn cyI cyJ cyO h_o a_o_sets a_o_ringFar a_o_ringTone a_o_currents a_o_warmths a_o_depths a_o_tape a_o_readFar a_o_readTone a_o_readSea a_o_code a_o_cellAt a_o_courseAt a_o_paceAt a_o_turnsAt a_o_slowAt a_o_fuelAt a_o_ringAt a_o_pieceParts a_o_dragCell a_o_dragBy a_o_sums a_o_shares a_o_keptFar a_o_image a_o_lanes a_o_sizes a_o_items a_o_movedItems o_taped o_at o_wrong o_level o_noRings o_noTones o_noFuel o_pieces o_drags o_all o_noPieces o_noDrags o_kept o_sets o_ringFar o_ringTone o_code o_cellAt o_courseAt o_paceAt o_turnsAt o_slowAt o_fuelAt o_ringAt)) hD hS hA [0, 1, 2, 3, 4, 5, 6, 7, 8, 9, 10, 11] rfl
      refine kc_i (wr := []) (va_runV (As := []) (rest := []) ⟨hx, hb, hml, hown, hts⟩ (c_X7_goesOn l dC dI cyI cyJ cyO H.size h_o a_o_sets a_o_ringFar a_o_ringTone a_o_currents a_o_warmths a_o_depths a_o_tape a_o_readFar a_o_readTone a_o_readSea a_o_code a_o_cellAt a_o_courseAt a_o_paceAt a_o_turnsAt a_o_slowAt a_o_fuelAt a_o_ringAt a_o_pieceParts a_o_dragCell a_o_dragBy a_o_sums a_o_shares a_o_keptFar a_o_image a_o_lanes a_o_sizes a_o_items a_o_movedItems o_taped o_at o_wrong o_level o_noRings o_noTones o_noFuel o_pieces o_drags o_all o_noPieces o_noDrags o_kept o_sets o_ringFar o_ringTone o_code o_cellAt o_courseAt o_paceAt o_turnsAt o_slowAt o_fuelAt o_ringAt _ (okb10 hw)) (cwV 0 hts (gdV (fun w h => List.mem_cons_of_mem _ h) q_904 q_906 qs_30 q_8 q_907) rfl rfl rfl (by decide +kernel) ⟨Nat.le_of_ble_eq_true rfl, Nat.le_of_ble_eq_true rfl⟩) ⟨(kpre zN_ok hK hPc hDc trivial hS hFc).1, va_recv hK hP (ci := 7) (q0 := 0) rfl rfl, (kpre zN_ok hK hPc hDc trivial hS hFc).2⟩ rfl rfl hl.1 rfl (lv_room (Nat.le_of_ble_eq_true rfl)) dX7_weight_11 ⟨Nat.le_of_ble_eq_true rfl, Nat.le_of_ble_eq_true rfl⟩) hP hD hS hFc [0, 1, 2, 3, 4, 5, 6, 7, 8, 9, 10, 11] [] rfl rfl (by decide +kernel) (by decide +kernel) (fun r_1 u H locs hw hP hD hS => ?_)
      obtain ⟨w_2, w_3, w_4, w_5, w_6, w_7, w_8, w_9, w_10⟩ := u
      try dsimp only at hw
      have hP : va_P (dC, dI) vwCl (W_X7_weight cyI cyJ cyO h_o a_o_sets a_o_ringFar a_o_ringTone a_o_currents a_o_warmths a_o_depths a_o_tape a_o_readFar a_o_readTone a_o_readSea a_o_code a_o_cellAt a_o_courseAt a_o_paceAt a_o_turnsAt a_o_slowAt a_o_fuelAt a_o_ringAt a_o_pieceParts a_o_dragCell a_o_dragBy a_o_sums a_o_shares a_o_keptFar a_o_image a_o_lanes a_o_sizes a_o_items a_o_movedItems o_taped o_at o_wrong w_2 o_noRings o_noTones o_noFuel o_pieces o_drags o_all o_noPieces o_noDrags o_kept o_sets o_ringFar o_ringTone w_3 w_4 w_5 w_6 w_7 w_8 w_9 w_10) H := hP.sub [0, 1, 2, 3, 4, 5, 6, 7, 8, 9, 10, 11] rfl
      have hD : va_D A (W_X7_weight cyI cyJ cyO h_o a_o_sets a_o_ringFar a_o_ringTone a_o_currents a_o_warmths a_o_depths a_o_tape a_o_readFar a_o_readTone a_o_readSea a_o_code a_o_cellAt a_o_courseAt a_o_paceAt a_o_turnsAt a_o_slowAt a_o_fuelAt a_o_ringAt a_o_pieceParts a_o_dragCell a_o_dragBy a_o_sums a_o_shares a_o_keptFar a_o_image a_o_lanes a_o_sizes a_o_items a_o_movedItems o_taped o_at o_wrong w_2 o_noRings o_noTones o_noFuel o_pieces o_drags o_all o_noPieces o_noDrags o_kept o_sets o_ringFar o_ringTone w_3 w_4 w_5 w_6 w_7 w_8 w_9 w_10) := hD.sub [0, 1, 2, 3, 4, 5, 6, 7, 8, 9, 10, 11] (by decide +kernel) rfl
      clear hPc hDc hFc
      refine lv_if_eq (tgt := 28) hx hb dX7_weight_14 (by decide) (fun c_11 => ?_) (fun c_11 => ?_)
      · replace hw := okT hw c_11
        clear c_11
        refine lv_lload_n hx hb dX7_weight_28 rfl (lv_at hl 1 rfl) ?_
        rw [hQ]
        exact W.lret (v := v1) hx hb hr (fun t ht hW => ⟨⟨v1, (w_2, o_noRings, o_noTones, o_noFuel, w_3, w_4, w_5, w_6, w_7, w_8, w_9, w_10), rfl, okS hw, by rw [ht]; exact hP, va_K.moved hW.alike hK, hD⟩, hS.F ht⟩) hS.2.2 dX7_weight_29
      · replace hw := okF hw c_11
        clear c_11
        refine lv_lload_n hx hb dX7_weight_17 rfl (lv_at hl 1 rfl) ?_
        refine lv_aload_n hx hb dX7_weight_18 rfl (lv_at hl 0 rfl) ?_
        have hPc := hP.sub (ws' := (W_X7_heavy cyI cyJ cyO h_o a_o_sets a_o_ringFar a_o_ringTone a_o_currents a_o_warmths a_o_depths a_o_tape a_o_readFar a_o_readTone a_o_readSea a_o_code a_o_cellAt a_o_courseAt a_o_paceAt a_o_turnsAt a_o_slowAt a_o_fuelAt a_o_ringAt a_o_pieceParts a_o_dragCell a_o_dragBy a_o_sums a_o_shares a_o_keptFar a_o_image a_o_lanes a_o_sizes a_o_items a_o_movedItems o_taped o_at o_wrong w_2 o_noRings o_noTones o_noFuel o_pieces o_drags o_all o_noPieces o_noDrags o_kept o_sets w_7 w_8 w_10)) [0, 1, 8, 9, 11] rfl
        have hDc := hD.sub (ws' := (W_X7_heavy cyI cyJ cyO h_o a_o_sets a_o_ringFar a_o_ringTone a_o_currents a_o_warmths a_o_depths a_o_tape a_o_readFar a_o_readTone a_o_readSea a_o_code a_o_cellAt a_o_courseAt a_o_paceAt a_o_turnsAt a_o_slowAt a_o_fuelAt a_o_ringAt a_o_pieceParts a_o_dragCell a_o_dragBy a_o_sums a_o_shares a_o_keptFar a_o_image a_o_lanes a_o_sizes a_o_items a_o_movedItems o_taped o_at o_wrong w_2 o_noRings o_noTones o_noFuel o_pieces o_drags o_all o_noPieces o_noDrags o_kept o_sets w_7 w_8 w_10)) [0, 1, 8, 9, 11] (by decide +kernel) rfl
        have hFc := va_free (wc := (W_X7_heavy cyI cyJ cyO h_o a_o_sets a_o_ringFar a_o_ringTone a_o_currents a_o_warmths a_o_depths a_o_tape a_o_readFar a_o_readTone a_o_readSea a_o_code a_o_cellAt a_o_courseAt a_o_paceAt a_o_turnsAt a_o_slowAt a_o_fuelAt a_o_ringAt a_o_pieceParts a_o_dragCell a_o_dragBy a_o_sums a_o_shares a_o_keptFar a_o_image a_o_lanes a_o_sizes a_o_items a_o_movedItems o_taped o_at o_wrong w_2 o_noRings o_noTones o_noFuel o_pieces o_drags o_all o_noPieces o_noDrags o_kept o_sets w_7 w_8 w_10)) hD hS hA [0, 1, 8, 9, 11] rfl
        refine kc_i (wr := [(a_o_ringFar, .inl (cyI, 7, .inl o_ringFar)), (a_o_ringTone, .inl (cyI, 7, .inl o_ringTone)), (a_o_code, .inl (cyI, 7, .inl w_3)), (a_o_cellAt, .inl (cyI, 7, .inl w_4)), (a_o_courseAt, .inl (cyI, 7, .inl w_5)), (a_o_paceAt, .inl (cyI, 7, .inl w_6)), (a_o_fuelAt, .inl (cyI, 7, .inl w_9))]) (va_runV (As := []) (rest := [.long v1]) ⟨hx, hb, hml, hown, hts⟩ (c_X7_heavy l dC dI cyI cyJ cyO H.size h_o a_o_sets a_o_ringFar a_o_ringTone a_o_currents a_o_warmths a_o_depths a_o_tape a_o_readFar a_o_readTone a_o_readSea a_o_code a_o_cellAt a_o_courseAt a_o_paceAt a_o_turnsAt a_o_slowAt a_o_fuelAt a_o_ringAt a_o_pieceParts a_o_dragCell a_o_dragBy a_o_sums a_o_shares a_o_keptFar a_o_image a_o_lanes a_o_sizes a_o_items a_o_movedItems o_taped o_at o_wrong w_2 o_noRings o_noTones o_noFuel o_pieces o_drags o_all o_noPieces o_noDrags o_kept o_sets w_7 w_8 w_10 _ (okb1 hw)) (cwV 0 hts (gdV (fun w h => List.mem_cons_of_mem _ h) q_929 q_931 qs_33 q_8 q_932) rfl rfl rfl (by decide +kernel) ⟨Nat.le_of_ble_eq_true rfl, Nat.le_of_ble_eq_true rfl⟩) ⟨(kpre zN_ok hK hPc hDc trivial hS hFc).1, va_recv hK hP (ci := 7) (q0 := 0) rfl rfl, (kpre zN_ok hK hPc hDc trivial hS hFc).2⟩ rfl rfl hl.1 rfl (lv_room (Nat.le_of_ble_eq_true rfl)) dX7_weight_19 ⟨Nat.le_of_ble_eq_true rfl, Nat.le_of_ble_eq_true rfl⟩) hP hD hS hFc [0, 1, 8, 9, 11] [2, 3, 4, 5, 6, 7, 10] rfl rfl (by decide +kernel) (by decide +kernel) (fun r_12 u H locs hw hP hD hS => ?_)
        try dsimp only at hw
        have hP : va_P (dC, dI) vwCl (W_X7_weight cyI cyJ cyO h_o a_o_sets a_o_ringFar a_o_ringTone a_o_currents a_o_warmths a_o_depths a_o_tape a_o_readFar a_o_readTone a_o_readSea a_o_code a_o_cellAt a_o_courseAt a_o_paceAt a_o_turnsAt a_o_slowAt a_o_fuelAt a_o_ringAt a_o_pieceParts a_o_dragCell a_o_dragBy a_o_sums a_o_shares a_o_keptFar a_o_image a_o_lanes a_o_sizes a_o_items a_o_movedItems o_taped o_at o_wrong w_2 o_noRings o_noTones o_noFuel o_pieces o_drags o_all o_noPieces o_noDrags o_kept o_sets o_ringFar o_ringTone w_3 w_4 w_5 w_6 w_7 w_8 w_9 w_10) H := hP.sub [7, 8, 0, 1, 2, 3, 4, 5, 9, 10, 6, 11] rfl
        have hD : va_D A (W_X7_weight cyI cyJ cyO h_o a_o_sets a_o_ringFar a_o_ringTone a_o_currents a_o_warmths a_o_depths a_o_tape a_o_readFar a_o_readTone a_o_readSea a_o_code a_o_cellAt a_o_courseAt a_o_paceAt a_o_turnsAt a_o_slowAt a_o_fuelAt a_o_ringAt a_o_pieceParts a_o_dragCell a_o_dragBy a_o_sums a_o_shares a_o_keptFar a_o_image a_o_lanes a_o_sizes a_o_items a_o_movedItems o_taped o_at o_wrong w_2 o_noRings o_noTones o_noFuel o_pieces o_drags o_all o_noPieces o_noDrags o_kept o_sets o_ringFar o_ringTone w_3 w_4 w_5 w_6 w_7 w_8 w_9 w_10) := hD.sub [7, 8, 0, 1, 2, 3, 4, 5, 9, 10, 6, 11] (by decide +kernel) rfl
        clear hPc hDc hFc
        refine lv_i2l (v := r_12.toInt64) hx hb dX7_weight_22 rfl ?_
        refine lv_ladd hx hb dX7_weight_23 ?_
        refine lv_topl (fun x_13 ex_13 => ?_)
        replace hw := okN ex_13 hw
        clear ex_13
        refine lv_lstore_n (lv' := [(1, .long x_13), (0, .ref h_o)]) hx hb dX7_weight_24 rfl hl (by decide) rfl (fun ls hl => ?_)
        refine lv_goto (tgt := 10) hx hb dX7_weight_25 (by decide) ?_
        exact ih10 x_13 w_2 o_noRings o_noTones o_noFuel w_3 w_4 w_5 w_6 w_7 w_8 w_9 w_10 _ _ hP hD hS _ (lv_sub hl [1, 0] rfl) hw
  unfold f_X7_weight at hw
  have hP : va_P (dC, dI) vwCl (W_X7_weight cyI cyJ cyO h_o a_o_sets a_o_ringFar a_o_ringTone a_o_currents a_o_warmths a_o_depths a_o_tape a_o_readFar a_o_readTone a_o_readSea a_o_code a_o_cellAt a_o_courseAt a_o_paceAt a_o_turnsAt a_o_slowAt a_o_fuelAt a_o_ringAt a_o_pieceParts a_o_dragCell a_o_dragBy a_o_sums a_o_shares a_o_keptFar a_o_image a_o_lanes a_o_sizes a_o_items a_o_movedItems o_taped o_at o_wrong o_level o_noRings o_noTones o_noFuel o_pieces o_drags o_all o_noPieces o_noDrags o_kept o_sets o_ringFar o_ringTone o_code o_cellAt o_courseAt o_paceAt o_turnsAt o_slowAt o_fuelAt o_ringAt) s.heap := hP
  obtain ⟨H, hH⟩ : ∃ H, H = s.heap := ⟨_, rfl⟩
  obtain ⟨locs, hlo⟩ : ∃ x : List Loc, x = [] := ⟨_, rfl⟩
  have hP : va_P (dC, dI) vwCl (W_X7_weight cyI cyJ cyO h_o a_o_sets a_o_ringFar a_o_ringTone a_o_currents a_o_warmths a_o_depths a_o_tape a_o_readFar a_o_readTone a_o_readSea a_o_code a_o_cellAt a_o_courseAt a_o_paceAt a_o_turnsAt a_o_slowAt a_o_fuelAt a_o_ringAt a_o_pieceParts a_o_dragCell a_o_dragBy a_o_sums a_o_shares a_o_keptFar a_o_image a_o_lanes a_o_sizes a_o_items a_o_movedItems o_taped o_at o_wrong o_level o_noRings o_noTones o_noFuel o_pieces o_drags o_all o_noPieces o_noDrags o_kept o_sets o_ringFar o_ringTone o_code o_cellAt o_courseAt o_paceAt o_turnsAt o_slowAt o_fuelAt o_ringAt) H := by rw [hH]; exact hP
  have hS : va_S A s.heap H locs := by rw [hH, hlo]; exact hS
  refine kH hH hlo ?_
  clear hH hlo
  refine lv_aload_n hx hb dX7_weight_0 rfl (lv_at hl 0 rfl) ?_
  have hPc := hP.sub (ws' := (W_X7_asTold cyI cyJ cyO h_o a_o_sets a_o_ringFar a_o_ringTone a_o_currents a_o_warmths a_o_depths a_o_tape a_o_readFar a_o_readTone a_o_readSea a_o_code a_o_cellAt a_o_courseAt a_o_paceAt a_o_turnsAt a_o_slowAt a_o_fuelAt a_o_ringAt a_o_pieceParts a_o_dragCell a_o_dragBy a_o_sums a_o_shares a_o_keptFar a_o_image a_o_lanes a_o_sizes a_o_items a_o_movedItems o_taped o_at o_wrong o_level o_noRings o_noTones o_noFuel o_pieces o_drags o_all o_noPieces o_noDrags o_kept)) [0] rfl
  have hDc := hD.sub (ws' := (W_X7_asTold cyI cyJ cyO h_o a_o_sets a_o_ringFar a_o_ringTone a_o_currents a_o_warmths a_o_depths a_o_tape a_o_readFar a_o_readTone a_o_readSea a_o_code a_o_cellAt a_o_courseAt a_o_paceAt a_o_turnsAt a_o_slowAt a_o_fuelAt a_o_ringAt a_o_pieceParts a_o_dragCell a_o_dragBy a_o_sums a_o_shares a_o_keptFar a_o_image a_o_lanes a_o_sizes a_o_items a_o_movedItems o_taped o_at o_wrong o_level o_noRings o_noTones o_noFuel o_pieces o_drags o_all o_noPieces o_noDrags o_kept)) [0] (by decide +kernel) rfl
  have hFc := va_free (wc := (W_X7_asTold cyI cyJ cyO h_o a_o_sets a_o_ringFar a_o_ringTone a_o_currents a_o_warmths a_o_depths a_o_tape a_o_readFar a_o_readTone a_o_readSea a_o_code a_o_cellAt a_o_courseAt a_o_paceAt a_o_turnsAt a_o_slowAt a_o_fuelAt a_o_ringAt a_o_pieceParts a_o_dragCell a_o_dragBy a_o_sums a_o_shares a_o_keptFar a_o_image a_o_lanes a_o_sizes a_o_items a_o_movedItems o_taped o_at o_wrong o_level o_noRings o_noTones o_noFuel o_pieces o_drags o_all o_noPieces o_noDrags o_kept)) hD hS hA [0] rfl
  refine kc_v (wr := [(a_o_sets, .inl (cyI, 8, .inl o_sets)), (a_o_ringFar, .inl (cyI, 7, .inl o_ringFar)), (a_o_ringTone, .inl (cyI, 7, .inl o_ringTone)), (a_o_code, .inl (cyI, 7, .inl o_code)), (a_o_cellAt, .inl (cyI, 7, .inl o_cellAt)), (a_o_courseAt, .inl (cyI, 7, .inl o_courseAt)), (a_o_paceAt, .inl (cyI, 7, .inl o_paceAt)), (a_o_turnsAt, .inl (cyI, 7, .inl o_turnsAt)), (a_o_slowAt, .inl (cyI, 7, .inl o_slowAt)), (a_o_fuelAt, .inl (cyI, 7, .inl o_fuelAt)), (a_o_ringAt, .inl (cyI, 7, .inl o_ringAt))]) (va_runV (As := []) (rest := []) ⟨hx, hb, hml, hown, hts⟩ (c_X7_asTold l dC dI cyI cyJ cyO H.size h_o a_o_sets a_o_ringFar a_o_ringTone a_o_currents a_o_warmths a_o_depths a_o_tape a_o_readFar a_o_readTone a_o_readSea a_o_code a_o_cellAt a_o_courseAt a_o_paceAt a_o_turnsAt a_o_slowAt a_o_fuelAt a_o_ringAt a_o_pieceParts a_o_dragCell a_o_dragBy a_o_sums a_o_shares a_o_keptFar a_o_image a_o_lanes a_o_sizes a_o_items a_o_movedItems o_taped o_at o_wrong o_level o_noRings o_noTones o_noFuel o_pieces o_drags o_all o_noPieces o_noDrags o_kept _ (okb3 hw)) (cwV 0 hts (gdV (fun w h => List.mem_cons_of_mem _ h) q_896 q_898 qs_28 q_8 q_899) rfl rfl rfl (by decide +kernel) ⟨Nat.le_of_ble_eq_true rfl, Nat.le_of_ble_eq_true rfl⟩) ⟨(kpre zN_ok hK hPc hDc trivial hS hFc).1, va_recv hK hP (ci := 7) (q0 := 0) rfl rfl, (kpre zN_ok hK hPc hDc trivial hS hFc).2⟩ rfl rfl hl.1 rfl (lv_room (Nat.le_of_ble_eq_true rfl)) dX7_weight_1 ⟨Nat.le_of_ble_eq_true rfl, Nat.le_of_ble_eq_true rfl⟩) hP hD hS hFc [0] [1, 2, 3, 4, 5, 6, 7, 8, 9, 10, 11] rfl rfl (by decide +kernel) (by decide +kernel) (fun u H locs hw hP hD hS => ?_)
  obtain ⟨w_14, w_15, w_16⟩ := u
  try dsimp only at hw
  have hP : va_P (dC, dI) vwCl (W_X7_weight cyI cyJ cyO h_o a_o_sets a_o_ringFar a_o_ringTone a_o_currents a_o_warmths a_o_depths a_o_tape a_o_readFar a_o_readTone a_o_readSea a_o_code a_o_cellAt a_o_courseAt a_o_paceAt a_o_turnsAt a_o_slowAt a_o_fuelAt a_o_ringAt a_o_pieceParts a_o_dragCell a_o_dragBy a_o_sums a_o_shares a_o_keptFar a_o_image a_o_lanes a_o_sizes a_o_items a_o_movedItems o_taped o_at o_wrong o_level w_14 w_15 w_16 o_pieces o_drags o_all o_noPieces o_noDrags o_kept o_sets o_ringFar o_ringTone o_code o_cellAt o_courseAt o_paceAt o_turnsAt o_slowAt o_fuelAt o_ringAt) H := hP.sub [11, 0, 1, 2, 3, 4, 5, 6, 7, 8, 9, 10] rfl
  have hD : va_D A (W_X7_weight cyI cyJ cyO h_o a_o_sets a_o_ringFar a_o_ringTone a_o_currents a_o_warmths a_o_depths a_o_tape a_o_readFar a_o_readTone a_o_readSea a_o_code a_o_cellAt a_o_courseAt a_o_paceAt a_o_turnsAt a_o_slowAt a_o_fuelAt a_o_ringAt a_o_pieceParts a_o_dragCell a_o_dragBy a_o_sums a_o_shares a_o_keptFar a_o_image a_o_lanes a_o_sizes a_o_items a_o_movedItems o_taped o_at o_wrong o_level w_14 w_15 w_16 o_pieces o_drags o_all o_noPieces o_noDrags o_kept o_sets o_ringFar o_ringTone o_code o_cellAt o_courseAt o_paceAt o_turnsAt o_slowAt o_fuelAt o_ringAt) := hD.sub [11, 0, 1, 2, 3, 4, 5, 6, 7, 8, 9, 10] (by decide +kernel) rfl
  clear hPc hDc hFc
  refine lv_aload_n hx hb dX7_weight_4 rfl (lv_at hl 0 rfl) ?_
  have hPc := hP.sub (ws' := (W_X7_begins cyI cyJ cyO h_o a_o_sets a_o_ringFar a_o_ringTone a_o_currents a_o_warmths a_o_depths a_o_tape a_o_readFar a_o_readTone a_o_readSea a_o_code a_o_cellAt a_o_courseAt a_o_paceAt a_o_turnsAt a_o_slowAt a_o_fuelAt a_o_ringAt a_o_pieceParts a_o_dragCell a_o_dragBy a_o_sums a_o_shares a_o_keptFar a_o_image a_o_lanes a_o_sizes a_o_items a_o_movedItems o_taped o_at o_wrong o_level w_14 w_15 w_16 o_pieces o_drags o_all o_noPieces o_noDrags o_kept o_sets o_code o_cellAt o_turnsAt o_slowAt o_fuelAt o_ringAt)) [0, 1, 4, 5, 8, 9, 10, 11] rfl
  have hDc := hD.sub (ws' := (W_X7_begins cyI cyJ cyO h_o a_o_sets a_o_ringFar a_o_ringTone a_o_currents a_o_warmths a_o_depths a_o_tape a_o_readFar a_o_readTone a_o_readSea a_o_code a_o_cellAt a_o_courseAt a_o_paceAt a_o_turnsAt a_o_slowAt a_o_fuelAt a_o_ringAt a_o_pieceParts a_o_dragCell a_o_dragBy a_o_sums a_o_shares a_o_keptFar a_o_image a_o_lanes a_o_sizes a_o_items a_o_movedItems o_taped o_at o_wrong o_level w_14 w_15 w_16 o_pieces o_drags o_all o_noPieces o_noDrags o_kept o_sets o_code o_cellAt o_turnsAt o_slowAt o_fuelAt o_ringAt)) [0, 1, 4, 5, 8, 9, 10, 11] (by decide +kernel) rfl
  have hFc := va_free (wc := (W_X7_begins cyI cyJ cyO h_o a_o_sets a_o_ringFar a_o_ringTone a_o_currents a_o_warmths a_o_depths a_o_tape a_o_readFar a_o_readTone a_o_readSea a_o_code a_o_cellAt a_o_courseAt a_o_paceAt a_o_turnsAt a_o_slowAt a_o_fuelAt a_o_ringAt a_o_pieceParts a_o_dragCell a_o_dragBy a_o_sums a_o_shares a_o_keptFar a_o_image a_o_lanes a_o_sizes a_o_items a_o_movedItems o_taped o_at o_wrong o_level w_14 w_15 w_16 o_pieces o_drags o_all o_noPieces o_noDrags o_kept o_sets o_code o_cellAt o_turnsAt o_slowAt o_fuelAt o_ringAt)) hD hS hA [0, 1, 4, 5, 8, 9, 10, 11] rfl
  refine kc_v (wr := [(a_o_ringFar, .inl (cyI, 7, .inl o_ringFar)), (a_o_ringTone, .inl (cyI, 7, .inl o_ringTone)), (a_o_courseAt, .inl (cyI, 7, .inl o_courseAt)), (a_o_paceAt, .inl (cyI, 7, .inl o_paceAt))]) (va_runV (As := []) (rest := []) ⟨hx, hb, hml, hown, hts⟩ (c_X7_begins l dC dI cyI cyJ cyO H.size h_o a_o_sets a_o_ringFar a_o_ringTone a_o_currents a_o_warmths a_o_depths a_o_tape a_o_readFar a_o_readTone a_o_readSea a_o_code a_o_cellAt a_o_courseAt a_o_paceAt a_o_turnsAt a_o_slowAt a_o_fuelAt a_o_ringAt a_o_pieceParts a_o_dragCell a_o_dragBy a_o_sums a_o_shares a_o_keptFar a_o_image a_o_lanes a_o_sizes a_o_items a_o_movedItems o_taped o_at o_wrong o_level w_14 w_15 w_16 o_pieces o_drags o_all o_noPieces o_noDrags o_kept o_sets o_code o_cellAt o_turnsAt o_slowAt o_fuelAt o_ringAt _ (okb7 hw)) (cwV 0 hts (gdV (fun w h => List.mem_cons_of_mem _ h) q_900 q_902 qs_29 q_8 q_903) rfl rfl rfl (by decide +kernel) ⟨Nat.le_of_ble_eq_true rfl, Nat.le_of_ble_eq_true rfl⟩) ⟨(kpre zN_ok hK hPc hDc trivial hS hFc).1, va_recv hK hP (ci := 7) (q0 := 0) rfl rfl, (kpre zN_ok hK hPc hDc trivial hS hFc).2⟩ rfl rfl hl.1 rfl (lv_room (Nat.le_of_ble_eq_true rfl)) dX7_weight_5 ⟨Nat.le_of_ble_eq_true rfl, Nat.le_of_ble_eq_true rfl⟩) hP hD hS hFc [0, 1, 4, 5, 8, 9, 10, 11] [2, 3, 6, 7] rfl rfl (by decide +kernel) (by decide +kernel) (fun u H locs hw hP hD hS => ?_)
  obtain ⟨w_17, w_18, w_19, w_20, w_21, w_22, w_23⟩ := u
  try dsimp only at hw
  have hP : va_P (dC, dI) vwCl (W_X7_weight cyI cyJ cyO h_o a_o_sets a_o_ringFar a_o_ringTone a_o_currents a_o_warmths a_o_depths a_o_tape a_o_readFar a_o_readTone a_o_readSea a_o_code a_o_cellAt a_o_courseAt a_o_paceAt a_o_turnsAt a_o_slowAt a_o_fuelAt a_o_ringAt a_o_pieceParts a_o_dragCell a_o_dragBy a_o_sums a_o_shares a_o_keptFar a_o_image a_o_lanes a_o_sizes a_o_items a_o_movedItems o_taped o_at o_wrong w_17 w_14 w_15 w_16 o_pieces o_drags o_all o_noPieces o_noDrags o_kept o_sets o_ringFar o_ringTone w_18 w_19 o_courseAt o_paceAt w_20 w_21 w_22 w_23) H := hP.sub [4, 5, 0, 1, 6, 7, 2, 3, 8, 9, 10, 11] rfl
  have hD : va_D A (W_X7_weight cyI cyJ cyO h_o a_o_sets a_o_ringFar a_o_ringTone a_o_currents a_o_warmths a_o_depths a_o_tape a_o_readFar a_o_readTone a_o_readSea a_o_code a_o_cellAt a_o_courseAt a_o_paceAt a_o_turnsAt a_o_slowAt a_o_fuelAt a_o_ringAt a_o_pieceParts a_o_dragCell a_o_dragBy a_o_sums a_o_shares a_o_keptFar a_o_image a_o_lanes a_o_sizes a_o_items a_o_movedItems o_taped o_at o_wrong w_17 w_14 w_15 w_16 o_pieces o_drags o_all o_noPieces o_noDrags o_kept o_sets o_ringFar o_ringTone w_18 w_19 o_courseAt o_paceAt w_20 w_21 w_22 w_23) := hD.sub [4, 5, 0, 1, 6, 7, 2, 3, 8, 9, 10, 11] (by decide +kernel) rfl
  clear hPc hDc hFc
  refine lv_lconst (v := 0) hx hb dX7_weight_8 (by decide) ?_
  refine lv_lstore_n (lv' := [(1, .long 0), (0, .ref h_o)]) hx hb dX7_weight_9 rfl hl (by decide) rfl (fun ls hl => ?_)
  exact w10 FU 0 w_17 w_14 w_15 w_16 w_18 w_19 o_courseAt o_paceAt w_20 w_21 w_22 w_23 _ _ hP hD hS _ (lv_sub hl [1, 0] rfl) hw
/-! ===== X7_finds ===== -/
theorem dX7_finds_0 : decode cX7_finds 0 = .ok (.aload_n 0, 1) := by decide +kernel
theorem dX7_finds_1 : decode cX7_finds 1 = .ok (.invokevirtual 187, 3) := by decide +kernel
theorem dX7_finds_4 : decode cX7_finds 4 = .ok (.aload_n 0, 1) := by decide +kernel
theorem dX7_finds_5 : decode cX7_finds 5 = .ok (.invokevirtual 190, 3) := by decide +kernel
theorem dX7_finds_8 : decode cX7_finds 8 = .ok (.aload_n 0, 1) := by decide +kernel
theorem dX7_finds_9 : decode cX7_finds 9 = .ok (.invokevirtual 193, 3) := by decide +kernel
theorem dX7_finds_12 : decode cX7_finds 12 = .ok (.istore_n 2, 1) := by decide +kernel
theorem dX7_finds_13 : decode cX7_finds 13 = .ok (.iconst 0, 1) := by decide +kernel
theorem dX7_finds_14 : decode cX7_finds 14 = .ok (.istore_n 3, 1) := by decide +kernel
theorem dX7_finds_15 : decode cX7_finds 15 = .ok (.iload_n 3, 1) := by decide +kernel
theorem dX7_finds_16 : decode cX7_finds 16 = .ok (.iload_n 1, 1) := by decide +kernel
theorem dX7_finds_17 : decode cX7_finds 17 = .ok (.if_icmp .ge 18, 3) := by decide +kernel
theorem dX7_finds_20 : decode cX7_finds 20 = .ok (.iload_n 2, 1) := by decide +kernel
theorem dX7_finds_21 : decode cX7_finds 21 = .ok (.ifCond .eq 14, 3) := by decide +kernel
theorem dX7_finds_24 : decode cX7_finds 24 = .ok (.aload_n 0, 1) := by decide +kernel
theorem dX7_finds_25 : decode cX7_finds 25 = .ok (.invokevirtual 193, 3) := by decide +kernel
theorem dX7_finds_28 : decode cX7_finds 28 = .ok (.istore_n 2, 1) := by decide +kernel
theorem dX7_finds_29 : decode cX7_finds 29 = .ok (.iinc 3 1, 3) := by decide +kernel
theorem dX7_finds_32 : decode cX7_finds 32 = .ok (.goto (-17), 3) := by decide +kernel
theorem dX7_finds_35 : decode cX7_finds 35 = .ok (.iload_n 2, 1) := by decide +kernel
theorem dX7_finds_36 : decode cX7_finds 36 = .ok (.ireturn, 1) := by decide +kernel
abbrev W_X7_finds (cyI cyJ cyO : ClassId) (h_o a_o_sets a_o_ringFar a_o_ringTone a_o_currents a_o_warmths a_o_depths a_o_tape a_o_readFar a_o_readTone a_o_readSea a_o_code a_o_cellAt a_o_courseAt a_o_paceAt a_o_turnsAt a_o_slowAt a_o_fuelAt a_o_ringAt a_o_pieceParts a_o_dragCell a_o_dragBy a_o_sums a_o_shares a_o_keptFar a_o_image a_o_lanes a_o_sizes a_o_items a_o_movedItems : Nat) (o_taped : Int32) (o_at : Int32) (o_wrong : Int32) (o_level : Int32) (o_noRings : Int32) (o_noTones : Int32) (o_noFuel : Int32) (o_pieces : Int32) (o_drags : Int32) (o_all : Int64) (o_noPieces : Int32) (o_noDrags : Int32) (o_kept : Int32) (o_sets : Nat → Int32) (o_ringFar : Nat → Int32) (o_ringTone : Nat → Int32) (o_code : Nat → Int32) (o_cellAt : Nat → Int32) (o_courseAt : Nat → Int32) (o_paceAt : Nat → Int32) (o_turnsAt : Nat → Int32) (o_slowAt : Nat → Int32) (o_fuelAt : Nat → Int32) (o_ringAt : Nat → Int32) : va_W := [(h_o, .inr (7, [.ref a_o_sets, .ref a_o_ringFar, .ref a_o_ringTone, .ref a_o_currents, .ref a_o_warmths, .ref a_o_depths, .ref a_o_tape, .int o_taped, .int o_at, .int o_wrong, .ref a_o_readFar, .ref a_o_readTone, .ref a_o_readSea, .ref a_o_code, .ref a_o_cellAt, .ref a_o_courseAt, .ref a_o_paceAt, .ref a_o_turnsAt, .ref a_o_slowAt, .ref a_o_fuelAt, .ref a_o_ringAt, .int o_level, .int o_noRings, .int o_noTones, .int o_noFuel, .int o_pieces, .ref a_o_pieceParts, .int o_drags, .ref a_o_dragCell, .ref a_o_dragBy, .ref a_o_sums, .long o_all, .int o_noPieces, .int o_noDrags, .ref a_o_shares, .ref a_o_keptFar, .ref a_o_image, .int o_kept, .ref a_o_lanes, .ref a_o_sizes, .ref a_o_items, .ref a_o_movedItems])), (a_o_sets, .inl (cyI, 8, .inl o_sets)), (a_o_ringFar, .inl (cyI, 7, .inl o_ringFar)), (a_o_ringTone, .inl (cyI, 7, .inl o_ringTone)), (a_o_code, .inl (cyI, 7, .inl o_code)), (a_o_cellAt, .inl (cyI, 7, .inl o_cellAt)), (a_o_courseAt, .inl (cyI, 7, .inl o_courseAt)), (a_o_paceAt, .inl (cyI, 7, .inl o_paceAt)), (a_o_turnsAt, .inl (cyI, 7, .inl o_turnsAt)), (a_o_slowAt, .inl (cyI, 7, .inl o_slowAt)), (a_o_fuelAt, .inl (cyI, 7, .inl o_fuelAt)), (a_o_ringAt, .inl (cyI, 7, .inl o_ringAt))]
def f_X7_finds_L15b (k15 : Int32 → Int32 → Int32 → Int32 → Int32 → Int32 → Int32 → (Nat → Int32) → (Nat → Int32) → (Nat → Int32) → (Nat → Int32) → (Nat → Int32) → (Nat → Int32) → (Nat → Int32) → (Nat → Int32) → (Nat → Int32) → (Nat → Int32) → (Nat → Int32) → Option (Int32 × Int32 × Int32 × Int32 × Int32 × (Nat → Int32) × (Nat → Int32) × (Nat → Int32) × (Nat → Int32) × (Nat → Int32) × (Nat → Int32) × (Nat → Int32) × (Nat → Int32))) (v1 : Int32) (v2 : Int32) (v3 : Int32) (o_level : Int32) (o_noRings : Int32) (o_noTones : Int32) (o_noFuel : Int32) (o_sets : Nat → Int32) (o_ringFar : Nat → Int32) (o_ringTone : Nat → Int32) (o_code : Nat → Int32) (o_cellAt : Nat → Int32) (o_courseAt : Nat → Int32) (o_paceAt : Nat → Int32) (o_turnsAt : Nat → Int32) (o_slowAt : Nat → Int32) (o_fuelAt : Nat → Int32) (o_ringAt : Nat → Int32) : Option (Int32 × Int32 × Int32 × Int32 × Int32 × (Nat → Int32) × (Nat → Int32) × (Nat → Int32) × (Nat → Int32) × (Nat → Int32) × (Nat → Int32) × (Nat → Int32) × (Nat → Int32)) :=
  if v1 ≤ v3 then
    chk (v2 = 0 ∨ v2 = 1) <|
    some (v2, o_level, o_noRings, o_noTones, o_noFuel, o_code, o_cellAt, o_courseAt, o_paceAt, o_turnsAt, o_slowAt, o_fuelAt, o_ringAt)
  else
    if v2 = 0 then
      chk (v2 = 0 ∨ v2 = 1) <|
      some (v2, o_level, o_noRings, o_noTones, o_noFuel, o_code, o_cellAt, o_courseAt, o_paceAt, o_turnsAt, o_slowAt, o_fuelAt, o_ringAt)
    else
      bd10 (f_X7_goesOn o_level o_noRings o_noTones o_noFuel o_sets o_ringFar o_ringTone o_code o_cellAt o_courseAt o_paceAt o_turnsAt o_slowAt o_fuelAt o_ringAt) fun r_1 w_2 w_3 w_4 w_5 w_6 w_7 w_8 w_9 w_10 =>
      nm (v3 + 1) fun x_11 =>
      k15 v1 r_1 x_11 w_2 o_noRings o_noTones o_noFuel o_sets o_ringFar o_ringTone w_3 w_4 w_5 w_6 w_7 w_8 w_9 w_10
def f_X7_finds_L15 : Nat → Int32 → Int32 → Int32 → Int32 → Int32 → Int32 → Int32 → (Nat → Int32) → (Nat → Int32) → (Nat → Int32) → (Nat → Int32) → (Nat → Int32) → (Nat → Int32) → (Nat → Int32) → (Nat → Int32) → (Nat → Int32) → (Nat → Int32) → (Nat → Int32) → Option (Int32 × Int32 × Int32 × Int32 × Int32 × (Nat → Int32) × (Nat → Int32) × (Nat → Int32) × (Nat → Int32) × (Nat → Int32) × (Nat → Int32) × (Nat → Int32) × (Nat → Int32))
  | 0 => fun _ _ _ _ _ _ _ _ _ _ _ _ _ _ _ _ _ _ => none
  | n + 1 => f_X7_finds_L15b (f_X7_finds_L15 n)
def f_X7_finds (x1 : Int32) (o_level : Int32) (o_noRings : Int32) (o_noTones : Int32) (o_noFuel : Int32) (o_sets : Nat → Int32) (o_ringFar : Nat → Int32) (o_ringTone : Nat → Int32) (o_code : Nat → Int32) (o_cellAt : Nat → Int32) (o_courseAt : Nat → Int32) (o_paceAt : Nat → Int32) (o_turnsAt : Nat → Int32) (o_slowAt : Nat → Int32) (o_fuelAt : Nat → Int32) (o_ringAt : Nat → Int32) : Option (Int32 × Int32 × Int32 × Int32 × Int32 × (Nat → Int32) × (Nat → Int32) × (Nat → Int32) × (Nat → Int32) × (Nat → Int32) × (Nat → Int32) × (Nat → Int32) × (Nat → Int32)) :=
  bd3 (f_X7_asTold o_noRings o_noTones o_noFuel) fun w_12 w_13 w_14 =>
  bd7 (f_X7_begins o_level o_sets o_code o_cellAt o_turnsAt o_slowAt o_fuelAt o_ringAt) fun w_15 w_16 w_17 w_18 w_19 w_20 w_21 =>
  bd10 (f_X7_goesOn w_15 w_12 w_13 w_14 o_sets o_ringFar o_ringTone w_16 w_17 o_courseAt o_paceAt w_18 w_19 w_20 w_21) fun r_22 w_23 w_24 w_25 w_26 w_27 w_28 w_29 w_30 w_31 =>
  f_X7_finds_L15 FU x1 r_22 0 w_23 w_12 w_13 w_14 o_sets o_ringFar o_ringTone w_24 w_25 w_26 w_27 w_28 w_29 w_30 w_31
abbrev rm_X7_finds : Room := { frames := 4, cells := 0, slots := 0, locals := 98 }
set_option maxRecDepth 100000 in
set_option maxHeartbeats 4000000 in
theorem c_X7_finds (l : Launch) (dC : Nat → ClassId) (dI : Nat → Nat → Nat) (cyI cyJ cyO : ClassId) (sz : Nat) (h_o a_o_sets a_o_ringFar a_o_ringTone a_o_currents a_o_warmths a_o_depths a_o_tape a_o_readFar a_o_readTone a_o_readSea a_o_code a_o_cellAt a_o_courseAt a_o_paceAt a_o_turnsAt a_o_slowAt a_o_fuelAt a_o_ringAt a_o_pieceParts a_o_dragCell a_o_dragBy a_o_sums a_o_shares a_o_keptFar a_o_image a_o_lanes a_o_sizes a_o_items a_o_movedItems : Nat) (o_taped : Int32) (o_at : Int32) (o_wrong : Int32) (o_level : Int32) (o_noRings : Int32) (o_noTones : Int32) (o_noFuel : Int32) (o_pieces : Int32) (o_drags : Int32) (o_all : Int64) (o_noPieces : Int32) (o_noDrags : Int32) (o_kept : Int32) (o_sets : Nat → Int32) (o_ringFar : Nat → Int32) (o_ringTone : Nat → Int32) (o_code : Nat → Int32) (o_cellAt : Nat → Int32) (o_courseAt : Nat → Int32) (o_paceAt : Nat → Int32) (o_turnsAt : Nat → Int32) (o_slowAt : Nat → Int32) (o_fuelAt : Nat → Int32) (o_ringAt : Nat → Int32) (x1 : Int32) (post : (Int32 × Int32 × Int32 × Int32 × Int32 × (Nat → Int32) × (Nat → Int32) × (Nat → Int32) × (Nat → Int32) × (Nat → Int32) × (Nat → Int32) × (Nat → Int32) × (Nat → Int32)) → Prop) (hf : okP (f_X7_finds x1 o_level o_noRings o_noTones o_noFuel o_sets o_ringFar o_ringTone o_code o_cellAt o_courseAt o_paceAt o_turnsAt o_slowAt o_fuelAt o_ringAt) post) : Ci l (dC, dI) (tyL cyI cyJ cyO) yX7_finds wsX7_finds rm_X7_finds [.ref h_o, .int x1] sz (W_X7_finds cyI cyJ cyO h_o a_o_sets a_o_ringFar a_o_ringTone a_o_currents a_o_warmths a_o_depths a_o_tape a_o_readFar a_o_readTone a_o_readSea a_o_code a_o_cellAt a_o_courseAt a_o_paceAt a_o_turnsAt a_o_slowAt a_o_fuelAt a_o_ringAt a_o_pieceParts a_o_dragCell a_o_dragBy a_o_sums a_o_shares a_o_keptFar a_o_image a_o_lanes a_o_sizes a_o_items a_o_movedItems o_taped o_at o_wrong o_level o_noRings o_noTones o_noFuel o_pieces o_drags o_all o_noPieces o_noDrags o_kept o_sets o_ringFar o_ringTone o_code o_cellAt o_courseAt o_paceAt o_turnsAt o_slowAt o_fuelAt o_ringAt) zN (fun r u => post (r, u)) (fun u => (W_X7_finds cyI cyJ cyO h_o a_o_sets a_o_ringFar a_o_ringTone a_o_currents a_o_warmths a_o_depths a_o_tape a_o_readFar a_o_readTone a_o_readSea a_o_code a_o_cellAt a_o_courseAt a_o_paceAt a_o_turnsAt a_o_slowAt a_o_fuelAt a_o_ringAt a_o_pieceParts a_o_dragCell a_o_dragBy a_o_sums a_o_shares a_o_keptFar a_o_image a_o_lanes a_o_sizes a_o_items a_o_movedItems o_taped o_at o_wrong u.1 u.2.1 u.2.2.1 u.2.2.2.1 o_pieces o_drags o_all o_noPieces o_noDrags o_kept o_sets o_ringFar o_ringTone u.2.2.2.2.1 u.2.2.2.2.2.1 u.2.2.2.2.2.2.1 u.2.2.2.2.2.2.2.1 u.2.2.2.2.2.2.2.2.1 u.2.2.2.2.2.2.2.2.2.1 u.2.2.2.2.2.2.2.2.2.2.1 u.2.2.2.2.2.2.2.2.2.2.2)) := by
  refine Met.ofW (cc := cX7_finds) (maxL := 4) (ret := (some .boolean)) (by decide) rfl ?_
  intro p e s m args below meth c s₁ B hml hv
  obtain ⟨rfl, hsz, hP, hK, hD0, hZ⟩ := hv
  have hx := B.exec
  have hb := B.bytes
  have hr := B.returns
  have hts := atoms_spec (ws := wsX7_finds) B.pre
  have hown : s.vm.findClass RX7 = some m.cls := findClass_of_methodNamed B.named
  have hlocks := B.notSynchronized
  subst hsz
  have hD := hD0.self (sz := s.heap.size)
  generalize hAe : va_A (W_X7_finds cyI cyJ cyO h_o a_o_sets a_o_ringFar a_o_ringTone a_o_currents a_o_warmths a_o_depths a_o_tape a_o_readFar a_o_readTone a_o_readSea a_o_code a_o_cellAt a_o_courseAt a_o_paceAt a_o_turnsAt a_o_slowAt a_o_fuelAt a_o_ringAt a_o_pieceParts a_o_dragCell a_o_dragBy a_o_sums a_o_shares a_o_keptFar a_o_image a_o_lanes a_o_sizes a_o_items a_o_movedItems o_taped o_at o_wrong o_level o_noRings o_noTones o_noFuel o_pieces o_drags o_all o_noPieces o_noDrags o_kept o_sets o_ringFar o_ringTone o_code o_cellAt o_courseAt o_paceAt o_turnsAt o_slowAt o_fuelAt o_ringAt) s.heap.size = A at hD hZ ⊢
  have hA : ∀ q : Nat, s.heap.size ≤ q → A q := fun q h => by rw [← hAe]; exact Or.inr h
  clear hAe hD0
  have hS : va_S A s.heap s.heap [] := va_S.rf
  have hl := lv_entry ([.ref h_o, .int x1]) (n := 4) (Nat.le_of_ble_eq_true rfl)
  rw [lg_entry_eq]
  generalize (lg_sl ([.ref h_o, .int x1]) ++ List.replicate (4 - (lg_sl ([.ref h_o, .int x1])).length) Slot.unset).toArray = ls at hl ⊢
  have hl : lv_has ls 4 [(0, .ref h_o), (1, .int x1)] := hl
  refine kW (fun Q hQ => ?_)
  have hw := hf
  have w15 : ∀ (n : Nat), ∀ (v1 : Int32) (v2 : Int32) (v3 : Int32) (o_level : Int32) (o_noRings : Int32) (o_noTones : Int32) (o_noFuel : Int32) (o_code : Nat → Int32) (o_cellAt : Nat → Int32) (o_courseAt : Nat → Int32) (o_paceAt : Nat → Int32) (o_turnsAt : Nat → Int32) (o_slowAt : Nat → Int32) (o_fuelAt : Nat → Int32) (o_ringAt : Nat → Int32) (H : Heap) (locs : List Loc), va_P (dC, dI) vwCl (W_X7_finds cyI cyJ cyO h_o a_o_sets a_o_ringFar a_o_ringTone a_o_currents a_o_warmths a_o_depths a_o_tape a_o_readFar a_o_readTone a_o_readSea a_o_code a_o_cellAt a_o_courseAt a_o_paceAt a_o_turnsAt a_o_slowAt a_o_fuelAt a_o_ringAt a_o_pieceParts a_o_dragCell a_o_dragBy a_o_sums a_o_shares a_o_keptFar a_o_image a_o_lanes a_o_sizes a_o_items a_o_movedItems o_taped o_at o_wrong o_level o_noRings o_noTones o_noFuel o_pieces o_drags o_all o_noPieces o_noDrags o_kept o_sets o_ringFar o_ringTone o_code o_cellAt o_courseAt o_paceAt o_turnsAt o_slowAt o_fuelAt o_ringAt) H → va_D A (W_X7_finds cyI cyJ cyO h_o a_o_sets a_o_ringFar a_o_ringTone a_o_currents a_o_warmths a_o_depths a_o_tape a_o_readFar a_o_readTone a_o_readSea a_o_code a_o_cellAt a_o_courseAt a_o_paceAt a_o_turnsAt a_o_slowAt a_o_fuelAt a_o_ringAt a_o_pieceParts a_o_dragCell a_o_dragBy a_o_sums a_o_shares a_o_keptFar a_o_image a_o_lanes a_o_sizes a_o_items a_o_movedItems o_taped o_at o_wrong o_level o_noRings o_noTones o_noFuel o_pieces o_drags o_all o_noPieces o_noDrags o_kept o_sets o_ringFar o_ringTone o_code o_cellAt o_courseAt o_paceAt o_turnsAt o_slowAt o_fuelAt o_ringAt) → va_S A s.heap H locs → ∀ (ls : Array Slot), lv_has ls 4 [(0, .ref h_o), (1, .int v1), (2, .int v2), (3, .int v3)] → okP (f_X7_finds_L15 n v1 v2 v3 o_level o_noRings o_noTones o_noFuel o_sets o_ringFar o_ringTone o_code o_cellAt o_courseAt o_paceAt o_turnsAt o_slowAt o_fuelAt o_ringAt) post → W p l e (headSpec wsX7_finds rm_X7_finds).room s m ([.ref h_o, .int x1] : List Value).toArray below meth c H locs 0 0 Q (F0 m 15 ls []) := by
    intro n
    induction n with
    | zero =>
      intro v1 v2 v3 o_level o_noRings o_noTones o_noFuel o_code o_cellAt o_courseAt o_paceAt o_turnsAt o_slowAt o_fuelAt o_ringAt H locs hP hD hS ls hl hw
      exact (ok0 hw).elim
    | succ n15 ih15 =>
      intro v1 v2 v3 o_level o_noRings o_noTones o_noFuel o_code o_cellAt o_courseAt o_paceAt o_turnsAt o_slowAt o_fuelAt o_ringAt H locs hP hD hS ls hl hw
      replace hw : okP (f_X7_finds_L15b (f_X7_finds_L15 n15) v1 v2 v3 o_level o_noRings o_noTones o_noFuel o_sets o_ringFar o_ringTone o_code o_cellAt o_courseAt o_paceAt o_turnsAt o_slowAt o_fuelAt o_ringAt) post := hw
      unfold f_X7_finds_L15b at hw
      refine lv_iload_n hx hb dX7_finds_15 rfl (lv_at hl 3 rfl) ?_
      refine lv_iload_n hx hb dX7_finds_16 rfl (lv_at hl 1 rfl) ?_
      refine lv_icmp_ge (tgt := 35) hx hb dX7_finds_17 (by decide) (fun c_1 => ?_) (fun c_1 => ?_)
      · replace hw := okT hw c_1
        clear c_1
        refine lv_iload_n hx hb dX7_finds_35 rfl (lv_at hl 2 rfl) ?_
        obtain ⟨h_2, hw⟩ := okC hw
        rw [hQ]
        exact W.zret (v := v2) hx hb hr (nbZ h_2) (fun t ht hW => ⟨⟨v2, (o_level, o_noRings, o_noTones, o_noFuel, o_code, o_cellAt, o_courseAt, o_paceAt, o_turnsAt, o_slowAt, o_fuelAt, o_ringAt), rfl, okS hw, by rw [ht]; exact hP, va_K.moved hW.alike hK, hD⟩, hS.F ht⟩) hS.2.2 dX7_finds_36
      · replace hw := okF hw c_1
        clear c_1
        refine lv_iload_n hx hb dX7_finds_20 rfl (lv_at hl 2 rfl) ?_
        refine lv_if_eq (tgt := 35) hx hb dX7_finds_21 (by decide) (fun c_3 => ?_) (fun c_3 => ?_)
        · replace hw := okT hw c_3
          clear c_3
          refine lv_iload_n hx hb dX7_finds_35 rfl (lv_at hl 2 rfl) ?_
          obtain ⟨h_4, hw⟩ := okC hw
          rw [hQ]
          exact W.zret (v := v2) hx hb hr (nbZ h_4) (fun t ht hW => ⟨⟨v2, (o_level, o_noRings, o_noTones, o_noFuel, o_code, o_cellAt, o_courseAt, o_paceAt, o_turnsAt, o_slowAt, o_fuelAt, o_ringAt), rfl, okS hw, by rw [ht]; exact hP, va_K.moved hW.alike hK, hD⟩, hS.F ht⟩) hS.2.2 dX7_finds_36
        · replace hw := okF hw c_3
          clear c_3
          refine lv_aload_n hx hb dX7_finds_24 rfl (lv_at hl 0 rfl) ?_
          have hPc := hP.sub (ws' := (W_X7_goesOn cyI cyJ cyO h_o a_o_sets a_o_ringFar a_o_ringTone a_o_currents a_o_warmths a_o_depths a_o_tape a_o_readFar a_o_readTone a_o_readSea a_o_code a_o_cellAt a_o_courseAt a_o_paceAt a_o_turnsAt a_o_slowAt a_o_fuelAt a_o_ringAt a_o_pieceParts a_o_dragCell a_o_dragBy a_o_sums a_o_shares a_o_keptFar a_o_image a_o_lanes a_o_sizes a_o_items a_o_movedItems o_taped o_at o_wrong o_level o_noRings o_noTones o_noFuel o_pieces o_drags o_all o_noPieces o_noDrags o_kept o_sets o_ringFar o_ringTone o_code o_cellAt o_courseAt o_paceAt o_turnsAt o_slowAt o_fuelAt o_ringAt)) [0, 1, 2, 3, 4, 5, 6, 7, 8, 9, 10, 11] rfl
          have hDc := hD.sub (ws' := (W_X7_goesOn cyI cyJ cyO h_o a_o_sets a_o_ringFar a_o_ringTone a_o_currents a_o_warmths a_o_depths a_o_tape a_o_readFar a_o_readTone a_o_readSea a_o_code a_o_cellAt a_o_courseAt a_o_paceAt a_o_turnsAt a_o_slowAt a_o_fuelAt a_o_ringAt a_o_pieceParts a_o_dragCell a_o_dragBy a_o_sums a_o_shares a_o_keptFar a_o_image a_o_lanes a_o_sizes a_o_items a_o_movedItems o_taped o_at o_wrong o_level o_noRings o_noTones o_noFuel o_pieces o_drags o_all o_noPieces o_noDrags o_kept o_sets o_ringFar o_ringTone o_code o_cellAt o_courseAt o_paceAt o_turnsAt o_slowAt o_fuelAt o_ringAt)) [0, 1, 2, 3, 4, 5, 6, 7, 8, 9, 10, 11] (by decide +kernel) rfl
          have hFc := va_free (wc := (W_X7_goesOn cyI cyJ cyO h_o a_o_sets a_o_ringFar a_o_ringTone a_o_currents a_o_warmths a_o_depths a_o_tape a_o_readFar a_o_readTone a_o_readSea a_o_code a_o_cellAt a_o_courseAt a_o_paceAt a_o_turnsAt a_o_slowAt a_o_fuelAt a_o_ringAt a_o_pieceParts a_o_dragCell a_o_dragBy a_o_sums a_o_shares a_o_keptFar a_o_image a_o_lanes a_o_sizes a_o_items a_o_movedItems o_taped o_at o_wrong o_level o_noRings o_noTones o_noFuel o_pieces o_drags o_all o_noPieces o_noDrags o_kept o_sets o_ringFar o_ringTone o_code o_cellAt o_courseAt o_paceAt o_turnsAt o_slowAt o_fuelAt o_ringAt)) hD hS hA [0, 1, 2, 3, 4, 5, 6, 7, 8, 9, 10, 11] rfl
          refine kc_i (wr := []) (va_runV (As := []) (rest := []) ⟨hx, hb, hml, hown, hts⟩ (c_X7_goesOn l dC dI cyI cyJ cyO H.size h_o a_o_sets a_o_ringFar a_o_ringTone a_o_currents a_o_warmths a_o_depths a_o_tape a_o_readFar a_o_readTone a_o_readSea a_o_code a_o_cellAt a_o_courseAt a_o_paceAt a_o_turnsAt a_o_slowAt a_o_fuelAt a_o_ringAt a_o_pieceParts a_o_dragCell a_o_dragBy a_o_sums a_o_shares a_o_keptFar a_o_image a_o_lanes a_o_sizes a_o_items a_o_movedItems o_taped o_at o_wrong o_level o_noRings o_noTones o_noFuel o_pieces o_drags o_all o_noPieces o_noDrags o_kept o_sets o_ringFar o_ringTone o_code o_cellAt o_courseAt o_paceAt o_turnsAt o_slowAt o_fuelAt o_ringAt _ (okb10 hw)) (cwV 0 hts (gdV (fun w h => List.mem_cons_of_mem _ h) q_904 q_906 qs_30 q_8 q_907) rfl rfl rfl (by decide +kernel) ⟨Nat.le_of_ble_eq_true rfl, Nat.le_of_ble_eq_true rfl⟩) ⟨(kpre zN_ok hK hPc hDc trivial hS hFc).1, va_recv hK hP (ci := 7) (q0 := 0) rfl rfl, (kpre zN_ok hK hPc hDc trivial hS hFc).2⟩ rfl rfl hl.1 rfl (lv_room (Nat.le_of_ble_eq_true rfl)) dX7_finds_25 ⟨Nat.le_of_ble_eq_true rfl, Nat.le_of_ble_eq_true rfl⟩) hP hD hS hFc [0, 1, 2, 3, 4, 5, 6, 7, 8, 9, 10, 11] [] rfl rfl (by decide +kernel) (by decide +kernel) (fun r_5 u H locs hw hP hD hS => ?_)
          obtain ⟨w_6, w_7, w_8, w_9, w_10, w_11, w_12, w_13, w_14⟩ := u
          try dsimp only at hw
          have hP : va_P (dC, dI) vwCl (W_X7_finds cyI cyJ cyO h_o a_o_sets a_o_ringFar a_o_ringTone a_o_currents a_o_warmths a_o_depths a_o_tape a_o_readFar a_o_readTone a_o_readSea a_o_code a_o_cellAt a_o_courseAt a_o_paceAt a_o_turnsAt a_o_slowAt a_o_fuelAt a_o_ringAt a_o_pieceParts a_o_dragCell a_o_dragBy a_o_sums a_o_shares a_o_keptFar a_o_image a_o_lanes a_o_sizes a_o_items a_o_movedItems o_taped o_at o_wrong w_6 o_noRings o_noTones o_noFuel o_pieces o_drags o_all o_noPieces o_noDrags o_kept o_sets o_ringFar o_ringTone w_7 w_8 w_9 w_10 w_11 w_12 w_13 w_14) H := hP.sub [0, 1, 2, 3, 4, 5, 6, 7, 8, 9, 10, 11] rfl
          have hD : va_D A (W_X7_finds cyI cyJ cyO h_o a_o_sets a_o_ringFar a_o_ringTone a_o_currents a_o_warmths a_o_depths a_o_tape a_o_readFar a_o_readTone a_o_readSea a_o_code a_o_cellAt a_o_courseAt a_o_paceAt a_o_turnsAt a_o_slowAt a_o_fuelAt a_o_ringAt a_o_pieceParts a_o_dragCell a_o_dragBy a_o_sums a_o_shares a_o_keptFar a_o_image a_o_lanes a_o_sizes a_o_items a_o_movedItems o_taped o_at o_wrong w_6 o_noRings o_noTones o_noFuel o_pieces o_drags o_all o_noPieces o_noDrags o_kept o_sets o_ringFar o_ringTone w_7 w_8 w_9 w_10 w_11 w_12 w_13 w_14) := hD.sub [0, 1, 2, 3, 4, 5, 6, 7, 8, 9, 10, 11] (by decide +kernel) rfl
          clear hPc hDc hFc
          refine lv_istore_n (lv' := [(2, .int r_5), (0, .ref h_o), (1, .int v1), (3, .int v3)]) hx hb dX7_finds_28 rfl hl (by decide) rfl (fun ls hl => ?_)
          obtain ⟨x_15, ex_15⟩ : ∃ y : Int32, y = v3 + 1 := ⟨_, rfl⟩
          replace hw := okN ex_15 hw
          refine lv_iinc (v := x_15) (lv' := [(3, .int x_15), (2, .int r_5), (0, .ref h_o), (1, .int v1)]) hx hb dX7_finds_29 hl (k := 3) rfl (by rw [ex_15]; rfl) (by decide) rfl (fun ls hl => ?_)
          clear ex_15
          refine lv_goto (tgt := 15) hx hb dX7_finds_32 (by decide) ?_
          exact ih15 v1 r_5 x_15 w_6 o_noRings o_noTones o_noFuel w_7 w_8 w_9 w_10 w_11 w_12 w_13 w_14 _ _ hP hD hS _ (lv_sub hl [2, 3, 1, 0] rfl) hw
  unfold f_X7_finds at hw
  have hP : va_P (dC, dI) vwCl (W_X7_finds cyI cyJ cyO h_o a_o_sets a_o_ringFar a_o_ringTone a_o_currents a_o_warmths a_o_depths a_o_tape a_o_readFar a_o_readTone a_o_readSea a_o_code a_o_cellAt a_o_courseAt a_o_paceAt a_o_turnsAt a_o_slowAt a_o_fuelAt a_o_ringAt a_o_pieceParts a_o_dragCell a_o_dragBy a_o_sums a_o_shares a_o_keptFar a_o_image a_o_lanes a_o_sizes a_o_items a_o_movedItems o_taped o_at o_wrong o_level o_noRings o_noTones o_noFuel o_pieces o_drags o_all o_noPieces o_noDrags o_kept o_sets o_ringFar o_ringTone o_code o_cellAt o_courseAt o_paceAt o_turnsAt o_slowAt o_fuelAt o_ringAt) s.heap := hP
  obtain ⟨H, hH⟩ : ∃ H, H = s.heap := ⟨_, rfl⟩
  obtain ⟨locs, hlo⟩ : ∃ x : List Loc, x = [] := ⟨_, rfl⟩
  have hP : va_P (dC, dI) vwCl (W_X7_finds cyI cyJ cyO h_o a_o_sets a_o_ringFar a_o_ringTone a_o_currents a_o_warmths a_o_depths a_o_tape a_o_readFar a_o_readTone a_o_readSea a_o_code a_o_cellAt a_o_courseAt a_o_paceAt a_o_turnsAt a_o_slowAt a_o_fuelAt a_o_ringAt a_o_pieceParts a_o_dragCell a_o_dragBy a_o_sums a_o_shares a_o_keptFar a_o_image a_o_lanes a_o_sizes a_o_items a_o_movedItems o_taped o_at o_wrong o_level o_noRings o_noTones o_noFuel o_pieces o_drags o_all o_noPieces o_noDrags o_kept o_sets o_ringFar o_ringTone o_code o_cellAt o_courseAt o_paceAt o_turnsAt o_slowAt o_fuelAt o_ringAt) H := by rw [hH]; exact hP
  have hS : va_S A s.heap H locs := by rw [hH, hlo]; exact hS
  refine kH hH hlo ?_
  clear hH hlo
  refine lv_aload_n hx hb dX7_finds_0 rfl (lv_at hl 0 rfl) ?_
  have hPc := hP.sub (ws' := (W_X7_asTold cyI cyJ cyO h_o a_o_sets a_o_ringFar a_o_ringTone a_o_currents a_o_warmths a_o_depths a_o_tape a_o_readFar a_o_readTone a_o_readSea a_o_code a_o_cellAt a_o_courseAt a_o_paceAt a_o_turnsAt a_o_slowAt a_o_fuelAt a_o_ringAt a_o_pieceParts a_o_dragCell a_o_dragBy a_o_sums a_o_shares a_o_keptFar a_o_image a_o_lanes a_o_sizes a_o_items a_o_movedItems o_taped o_at o_wrong o_level o_noRings o_noTones o_noFuel o_pieces o_drags o_all o_noPieces o_noDrags o_kept)) [0] rfl
  have hDc := hD.sub (ws' := (W_X7_asTold cyI cyJ cyO h_o a_o_sets a_o_ringFar a_o_ringTone a_o_currents a_o_warmths a_o_depths a_o_tape a_o_readFar a_o_readTone a_o_readSea a_o_code a_o_cellAt a_o_courseAt a_o_paceAt a_o_turnsAt a_o_slowAt a_o_fuelAt a_o_ringAt a_o_pieceParts a_o_dragCell a_o_dragBy a_o_sums a_o_shares a_o_keptFar a_o_image a_o_lanes a_o_sizes a_o_items a_o_movedItems o_taped o_at o_wrong o_level o_noRings o_noTones o_noFuel o_pieces o_drags o_all o_noPieces o_noDrags o_kept)) [0] (by decide +kernel) rfl
  have hFc := va_free (wc := (W_X7_asTold cyI cyJ cyO h_o a_o_sets a_o_ringFar a_o_ringTone a_o_currents a_o_warmths a_o_depths a_o_tape a_o_readFar a_o_readTone a_o_readSea a_o_code a_o_cellAt a_o_courseAt a_o_paceAt a_o_turnsAt a_o_slowAt a_o_fuelAt a_o_ringAt a_o_pieceParts a_o_dragCell a_o_dragBy a_o_sums a_o_shares a_o_keptFar a_o_image a_o_lanes a_o_sizes a_o_items a_o_movedItems o_taped o_at o_wrong o_level o_noRings o_noTones o_noFuel o_pieces o_drags o_all o_noPieces o_noDrags o_kept)) hD hS hA [0] rfl
  refine kc_v (wr := [(a_o_sets, .inl (cyI, 8, .inl o_sets)), (a_o_ringFar, .inl (cyI, 7, .inl o_ringFar)), (a_o_ringTone, .inl (cyI, 7, .inl o_ringTone)), (a_o_code, .inl (cyI, 7, .inl o_code)), (a_o_cellAt, .inl (cyI, 7, .inl o_cellAt)), (a_o_courseAt, .inl (cyI, 7, .inl o_courseAt)), (a_o_paceAt, .inl (cyI, 7, .inl o_paceAt)), (a_o_turnsAt, .inl (cyI, 7, .inl o_turnsAt)), (a_o_slowAt, .inl (cyI, 7, .inl o_slowAt)), (a_o_fuelAt, .inl (cyI, 7, .inl o_fuelAt)), (a_o_ringAt, .inl (cyI, 7, .inl o_ringAt))]) (va_runV (As := []) (rest := []) ⟨hx, hb, hml, hown, hts⟩ (c_X7_asTold l dC dI cyI cyJ cyO H.size h_o a_o_sets a_o_ringFar a_o_ringTone a_o_currents a_o_warmths a_o_depths a_o_tape a_o_readFar a_o_readTone a_o_readSea a_o_code a_o_cellAt a_o_courseAt a_o_paceAt a_o_turnsAt a_o_slowAt a_o_fuelAt a_o_ringAt a_o_pieceParts a_o_dragCell a_o_dragBy a_o_sums a_o_shares a_o_keptFar a_o_image a_o_lanes a_o_sizes a_o_items a_o_movedItems o_taped o_at o_wrong o_level o_noRings o_noTones o_noFuel o_pieces o_drags o_all o_noPieces o_noDrags o_kept _ (okb3 hw)) (cwV 0 hts (gdV (fun w h => List.mem_cons_of_mem _ h) q_896 q_898 qs_28 q_8 q_899) rfl rfl rfl (by decide +kernel) ⟨Nat.le_of_ble_eq_true rfl, Nat.le_of_ble_eq_true rfl⟩) ⟨(kpre zN_ok hK hPc hDc trivial hS hFc).1, va_recv hK hP (ci := 7) (q0 := 0) rfl rfl, (kpre zN_ok hK hPc hDc trivial hS hFc).2⟩ rfl rfl hl.1 rfl (lv_room (Nat.le_of_ble_eq_true rfl)) dX7_finds_1 ⟨Nat.le_of_ble_eq_true rfl, Nat.le_of_ble_eq_true rfl⟩) hP hD hS hFc [0] [1, 2, 3, 4, 5, 6, 7, 8, 9, 10, 11] rfl rfl (by decide +kernel) (by decide +kernel) (fun u H locs hw hP hD hS => ?_)
  obtain ⟨w_16, w_17, w_18⟩ := u
  try dsimp only at hw
  have hP : va_P (dC, dI) vwCl (W_X7_finds cyI cyJ cyO h_o a_o_sets a_o_ringFar a_o_ringTone a_o_currents a_o_warmths a_o_depths a_o_tape a_o_readFar a_o_readTone a_o_readSea a_o_code a_o_cellAt a_o_courseAt a_o_paceAt a_o_turnsAt a_o_slowAt a_o_fuelAt a_o_ringAt a_o_pieceParts a_o_dragCell a_o_dragBy a_o_sums a_o_shares a_o_keptFar a_o_image a_o_lanes a_o_sizes a_o_items a_o_movedItems o_taped o_at o_wrong o_level w_16 w_17 w_18 o_pieces o_drags o_all o_noPieces o_noDrags o_kept o_sets o_ringFar o_ringTone o_code o_cellAt o_courseAt o_paceAt o_turnsAt o_slowAt o_fuelAt o_ringAt) H := hP.sub [11, 0, 1, 2, 3, 4, 5, 6, 7, 8, 9, 10] rfl
  have hD : va_D A (W_X7_finds cyI cyJ cyO h_o a_o_sets a_o_ringFar a_o_ringTone a_o_currents a_o_warmths a_o_depths a_o_tape a_o_readFar a_o_readTone a_o_readSea a_o_code a_o_cellAt a_o_courseAt a_o_paceAt a_o_turnsAt a_o_slowAt a_o_fuelAt a_o_ringAt a_o_pieceParts a_o_dragCell a_o_dragBy a_o_sums a_o_shares a_o_keptFar a_o_image a_o_lanes a_o_sizes a_o_items a_o_movedItems o_taped o_at o_wrong o_level w_16 w_17 w_18 o_pieces o_drags o_all o_noPieces o_noDrags o_kept o_sets o_ringFar o_ringTone o_code o_cellAt o_courseAt o_paceAt o_turnsAt o_slowAt o_fuelAt o_ringAt) := hD.sub [11, 0, 1, 2, 3, 4, 5, 6, 7, 8, 9, 10] (by decide +kernel) rfl
  clear hPc hDc hFc
  refine lv_aload_n hx hb dX7_finds_4 rfl (lv_at hl 0 rfl) ?_
  have hPc := hP.sub (ws' := (W_X7_begins cyI cyJ cyO h_o a_o_sets a_o_ringFar a_o_ringTone a_o_currents a_o_warmths a_o_depths a_o_tape a_o_readFar a_o_readTone a_o_readSea a_o_code a_o_cellAt a_o_courseAt a_o_paceAt a_o_turnsAt a_o_slowAt a_o_fuelAt a_o_ringAt a_o_pieceParts a_o_dragCell a_o_dragBy a_o_sums a_o_shares a_o_keptFar a_o_image a_o_lanes a_o_sizes a_o_items a_o_movedItems o_taped o_at o_wrong o_level w_16 w_17 w_18 o_pieces o_drags o_all o_noPieces o_noDrags o_kept o_sets o_code o_cellAt o_turnsAt o_slowAt o_fuelAt o_ringAt)) [0, 1, 4, 5, 8, 9, 10, 11] rfl
  have hDc := hD.sub (ws' := (W_X7_begins cyI cyJ cyO h_o a_o_sets a_o_ringFar a_o_ringTone a_o_currents a_o_warmths a_o_depths a_o_tape a_o_readFar a_o_readTone a_o_readSea a_o_code a_o_cellAt a_o_courseAt a_o_paceAt a_o_turnsAt a_o_slowAt a_o_fuelAt a_o_ringAt a_o_pieceParts a_o_dragCell a_o_dragBy a_o_sums a_o_shares a_o_keptFar a_o_image a_o_lanes a_o_sizes a_o_items a_o_movedItems o_taped o_at o_wrong o_level w_16 w_17 w_18 o_pieces o_drags o_all o_noPieces o_noDrags o_kept o_sets o_code o_cellAt o_turnsAt o_slowAt o_fuelAt o_ringAt)) [0, 1, 4, 5, 8, 9, 10, 11] (by decide +kernel) rfl
  have hFc := va_free (wc := (W_X7_begins cyI cyJ cyO h_o a_o_sets a_o_ringFar a_o_ringTone a_o_currents a_o_warmths a_o_depths a_o_tape a_o_readFar a_o_readTone a_o_readSea a_o_code a_o_cellAt a_o_courseAt a_o_paceAt a_o_turnsAt a_o_slowAt a_o_fuelAt a_o_ringAt a_o_pieceParts a_o_dragCell a_o_dragBy a_o_sums a_o_shares a_o_keptFar a_o_image a_o_lanes a_o_sizes a_o_items a_o_movedItems o_taped o_at o_wrong o_level w_16 w_17 w_18 o_pieces o_drags o_all o_noPieces o_noDrags o_kept o_sets o_code o_cellAt o_turnsAt o_slowAt o_fuelAt o_ringAt)) hD hS hA [0, 1, 4, 5, 8, 9, 10, 11] rfl
  refine kc_v (wr := [(a_o_ringFar, .inl (cyI, 7, .inl o_ringFar)), (a_o_ringTone, .inl (cyI, 7, .inl o_ringTone)), (a_o_courseAt, .inl (cyI, 7, .inl o_courseAt)), (a_o_paceAt, .inl (cyI, 7, .inl o_paceAt))]) (va_runV (As := []) (rest := []) ⟨hx, hb, hml, hown, hts⟩ (c_X7_begins l dC dI cyI cyJ cyO H.size h_o a_o_sets a_o_ringFar a_o_ringTone a_o_currents a_o_warmths a_o_depths a_o_tape a_o_readFar a_o_readTone a_o_readSea a_o_code a_o_cellAt a_o_courseAt a_o_paceAt a_o_turnsAt a_o_slowAt a_o_fuelAt a_o_ringAt a_o_pieceParts a_o_dragCell a_o_dragBy a_o_sums a_o_shares a_o_keptFar a_o_image a_o_lanes a_o_sizes a_o_items a_o_movedItems o_taped o_at o_wrong o_level w_16 w_17 w_18 o_pieces o_drags o_all o_noPieces o_noDrags o_kept o_sets o_code o_cellAt o_turnsAt o_slowAt o_fuelAt o_ringAt _ (okb7 hw)) (cwV 0 hts (gdV (fun w h => List.mem_cons_of_mem _ h) q_900 q_902 qs_29 q_8 q_903) rfl rfl rfl (by decide +kernel) ⟨Nat.le_of_ble_eq_true rfl, Nat.le_of_ble_eq_true rfl⟩) ⟨(kpre zN_ok hK hPc hDc trivial hS hFc).1, va_recv hK hP (ci := 7) (q0 := 0) rfl rfl, (kpre zN_ok hK hPc hDc trivial hS hFc).2⟩ rfl rfl hl.1 rfl (lv_room (Nat.le_of_ble_eq_true rfl)) dX7_finds_5 ⟨Nat.le_of_ble_eq_true rfl, Nat.le_of_ble_eq_true rfl⟩) hP hD hS hFc [0, 1, 4, 5, 8, 9, 10, 11] [2, 3, 6, 7] rfl rfl (by decide +kernel) (by decide +kernel) (fun u H locs hw hP hD hS => ?_)
  obtain ⟨w_19, w_20, w_21, w_22, w_23, w_24, w_25⟩ := u
  try dsimp only at hw
  have hP : va_P (dC, dI) vwCl (W_X7_finds cyI cyJ cyO h_o a_o_sets a_o_ringFar a_o_ringTone a_o_currents a_o_warmths a_o_depths a_o_tape a_o_readFar a_o_readTone a_o_readSea a_o_code a_o_cellAt a_o_courseAt a_o_paceAt a_o_turnsAt a_o_slowAt a_o_fuelAt a_o_ringAt a_o_pieceParts a_o_dragCell a_o_dragBy a_o_sums a_o_shares a_o_keptFar a_o_image a_o_lanes a_o_sizes a_o_items a_o_movedItems o_taped o_at o_wrong w_19 w_16 w_17 w_18 o_pieces o_drags o_all o_noPieces o_noDrags o_kept o_sets o_ringFar o_ringTone w_20 w_21 o_courseAt o_paceAt w_22 w_23 w_24 w_25) H := hP.sub [4, 5, 0, 1, 6, 7, 2, 3, 8, 9, 10, 11] rfl
  have hD : va_D A (W_X7_finds cyI cyJ cyO h_o a_o_sets a_o_ringFar a_o_ringTone a_o_currents a_o_warmths a_o_depths a_o_tape a_o_readFar a_o_readTone a_o_readSea a_o_code a_o_cellAt a_o_courseAt a_o_paceAt a_o_turnsAt a_o_slowAt a_o_fuelAt a_o_ringAt a_o_pieceParts a_o_dragCell a_o_dragBy a_o_sums a_o_shares a_o_keptFar a_o_image a_o_lanes a_o_sizes a_o_items a_o_movedItems o_taped o_at o_wrong w_19 w_16 w_17 w_18 o_pieces o_drags o_all o_noPieces o_noDrags o_kept o_sets o_ringFar o_ringTone w_20 w_21 o_courseAt o_paceAt w_22 w_23 w_24 w_25) := hD.sub [4, 5, 0, 1, 6, 7, 2, 3, 8, 9, 10, 11] (by decide +kernel) rfl
  clear hPc hDc hFc
  refine lv_aload_n hx hb dX7_finds_8 rfl (lv_at hl 0 rfl) ?_
  have hPc := hP.sub (ws' := (W_X7_goesOn cyI cyJ cyO h_o a_o_sets a_o_ringFar a_o_ringTone a_o_currents a_o_warmths a_o_depths a_o_tape a_o_readFar a_o_readTone a_o_readSea a_o_code a_o_cellAt a_o_courseAt a_o_paceAt a_o_turnsAt a_o_slowAt a_o_fuelAt a_o_ringAt a_o_pieceParts a_o_dragCell a_o_dragBy a_o_sums a_o_shares a_o_keptFar a_o_image a_o_lanes a_o_sizes a_o_items a_o_movedItems o_taped o_at o_wrong w_19 w_16 w_17 w_18 o_pieces o_drags o_all o_noPieces o_noDrags o_kept o_sets o_ringFar o_ringTone w_20 w_21 o_courseAt o_paceAt w_22 w_23 w_24 w_25)) [0, 1, 2, 3, 4, 5, 6, 7, 8, 9, 10, 11] rfl
  have hDc := hD.sub (ws' := (W_X7_goesOn cyI cyJ cyO h_o a_o_sets a_o_ringFar a_o_ringTone a_o_currents a_o_warmths a_o_depths a_o_tape a_o_readFar a_o_readTone a_o_readSea a_o_code a_o_cellAt a_o_courseAt a_o_paceAt a_o_turnsAt a_o_slowAt a_o_fuelAt a_o_ringAt a_o_pieceParts a_o_dragCell a_o_dragBy a_o_sums a_o_shares a_o_keptFar a_o_image a_o_lanes a_o_sizes a_o_items a_o_movedItems o_taped o_at o_wrong w_19 w_16 w_17 w_18 o_pieces o_drags o_all o_noPieces o_noDrags o_kept o_sets o_ringFar o_ringTone w_20 w_21 o_courseAt o_paceAt w_22 w_23 w_24 w_25)) [0, 1, 2, 3, 4, 5, 6, 7, 8, 9, 10, 11] (by decide +kernel) rfl
  have hFc := va_free (wc := (W_X7_goesOn cyI cyJ cyO h_o a_o_sets a_o_ringFar a_o_ringTone a_o_currents a_o_warmths a_o_depths a_o_tape a_o_readFar a_o_readTone a_o_readSea a_o_code a_o_cellAt a_o_courseAt a_o_paceAt a_o_turnsAt a_o_slowAt a_o_fuelAt a_o_ringAt a_o_pieceParts a_o_dragCell a_o_dragBy a_o_sums a_o_shares a_o_keptFar a_o_image a_o_lanes a_o_sizes a_o_items a_o_movedItems o_taped o_at o_wrong w_19 w_16 w_17 w_18 o_pieces o_drags o_all o_noPieces o_noDrags o_kept o_sets o_ringFar o_ringTone w_20 w_21 o_courseAt o_paceAt w_22 w_23 w_24 w_25)) hD hS hA [0, 1, 2, 3, 4, 5, 6, 7, 8, 9, 10, 11] rfl
  refine kc_i (wr := []) (va_runV (As := []) (rest := []) ⟨hx, hb, hml, hown, hts⟩ (c_X7_goesOn l dC dI cyI cyJ cyO H.size h_o a_o_sets a_o_ringFar a_o_ringTone a_o_currents a_o_warmths a_o_depths a_o_tape a_o_readFar a_o_readTone a_o_readSea a_o_code a_o_cellAt a_o_courseAt a_o_paceAt a_o_turnsAt a_o_slowAt a_o_fuelAt a_o_ringAt a_o_pieceParts a_o_dragCell a_o_dragBy a_o_sums a_o_shares a_o_keptFar a_o_image a_o_lanes a_o_sizes a_o_items a_o_movedItems o_taped o_at o_wrong w_19 w_16 w_17 w_18 o_pieces o_drags o_all o_noPieces o_noDrags o_kept o_sets o_ringFar o_ringTone w_20 w_21 o_courseAt o_paceAt w_22 w_23 w_24 w_25 _ (okb10 hw)) (cwV 0 hts (gdV (fun w h => List.mem_cons_of_mem _ h) q_904 q_906 qs_30 q_8 q_907) rfl rfl rfl (by decide +kernel) ⟨Nat.le_of_ble_eq_true rfl, Nat.le_of_ble_eq_true rfl⟩) ⟨(kpre zN_ok hK hPc hDc trivial hS hFc).1, va_recv hK hP (ci := 7) (q0 := 0) rfl rfl, (kpre zN_ok hK hPc hDc trivial hS hFc).2⟩ rfl rfl hl.1 rfl (lv_room (Nat.le_of_ble_eq_true rfl)) dX7_finds_9 ⟨Nat.le_of_ble_eq_true rfl, Nat.le_of_ble_eq_true rfl⟩) hP hD hS hFc [0, 1, 2, 3, 4, 5, 6, 7, 8, 9, 10, 11] [] rfl rfl (by decide +kernel) (by decide +kernel) (fun r_26 u H locs hw hP hD hS => ?_)
  obtain ⟨w_27, w_28, w_29, w_30, w_31, w_32, w_33, w_34, w_35⟩ := u
  try dsimp only at hw
  have hP : va_P (dC, dI) vwCl (W_X7_finds cyI cyJ cyO h_o a_o_sets a_o_ringFar a_o_ringTone a_o_currents a_o_warmths a_o_depths a_o_tape a_o_readFar a_o_readTone a_o_readSea a_o_code a_o_cellAt a_o_courseAt a_o_paceAt a_o_turnsAt a_o_slowAt a_o_fuelAt a_o_ringAt a_o_pieceParts a_o_dragCell a_o_dragBy a_o_sums a_o_shares a_o_keptFar a_o_image a_o_lanes a_o_sizes a_o_items a_o_movedItems o_taped o_at o_wrong w_27 w_16 w_17 w_18 o_pieces o_drags o_all o_noPieces o_noDrags o_kept o_sets o_ringFar o_ringTone w_28 w_29 w_30 w_31 w_32 w_33 w_34 w_35) H := hP.sub [0, 1, 2, 3, 4, 5, 6, 7, 8, 9, 10, 11] rfl
  have hD : va_D A (W_X7_finds cyI cyJ cyO h_o a_o_sets a_o_ringFar a_o_ringTone a_o_currents a_o_warmths a_o_depths a_o_tape a_o_readFar a_o_readTone a_o_readSea a_o_code a_o_cellAt a_o_courseAt a_o_paceAt a_o_turnsAt a_o_slowAt a_o_fuelAt a_o_ringAt a_o_pieceParts a_o_dragCell a_o_dragBy a_o_sums a_o_shares a_o_keptFar a_o_image a_o_lanes a_o_sizes a_o_items a_o_movedItems o_taped o_at o_wrong w_27 w_16 w_17 w_18 o_pieces o_drags o_all o_noPieces o_noDrags o_kept o_sets o_ringFar o_ringTone w_28 w_29 w_30 w_31 w_32 w_33 w_34 w_35) := hD.sub [0, 1, 2, 3, 4, 5, 6, 7, 8, 9, 10, 11] (by decide +kernel) rfl
  clear hPc hDc hFc
  refine lv_istore_n (lv' := [(2, .int r_26), (0, .ref h_o), (1, .int x1)]) hx hb dX7_finds_12 rfl hl (by decide) rfl (fun ls hl => ?_)
  refine lv_iconst (v := 0) hx hb dX7_finds_13 (by decide) ?_
  refine lv_istore_n (lv' := [(3, .int 0), (2, .int r_26), (0, .ref h_o), (1, .int x1)]) hx hb dX7_finds_14 rfl hl (by decide) rfl (fun ls hl => ?_)
  exact w15 FU x1 r_26 0 w_27 w_16 w_17 w_18 w_28 w_29 w_30 w_31 w_32 w_33 w_34 w_35 _ _ hP hD hS _ (lv_sub hl [2, 3, 1, 0] rfl) hw
/-! ===== X7_way ===== -/
theorem dX7_way_0 : decode cX7_way 0 = .ok (.iload_n 1, 1) := by decide +kernel
theorem dX7_way_1 : decode cX7_way 1 = .ok (.ifCond .lt 21, 3) := by decide +kernel
theorem dX7_way_4 : decode cX7_way 4 = .ok (.iload_n 2, 1) := by decide +kernel
theorem dX7_way_5 : decode cX7_way 5 = .ok (.i2l, 1) := by decide +kernel
theorem dX7_way_6 : decode cX7_way 6 = .ok (.ldc2_w 199, 3) := by decide +kernel
theorem dX7_way_9 : decode cX7_way 9 = .ok (.aload_n 0, 1) := by decide +kernel
theorem dX7_way_10 : decode cX7_way 10 = .ok (.getfield 7, 3) := by decide +kernel
theorem dX7_way_13 : decode cX7_way 13 = .ok (.iconst 2, 1) := by decide +kernel
theorem dX7_way_14 : decode cX7_way 14 = .ok (.iaload, 1) := by decide +kernel
theorem dX7_way_15 : decode cX7_way 15 = .ok (.i2l, 1) := by decide +kernel
theorem dX7_way_16 : decode cX7_way 16 = .ok (.invokestatic 100, 3) := by decide +kernel
theorem dX7_way_19 : decode cX7_way 19 = .ok (.ifCond .ne 5, 3) := by decide +kernel
theorem dX7_way_22 : decode cX7_way 22 = .ok (.iconst (-1), 1) := by decide +kernel
theorem dX7_way_23 : decode cX7_way 23 = .ok (.ireturn, 1) := by decide +kernel
theorem dX7_way_24 : decode cX7_way 24 = .ok (.aload_n 0, 1) := by decide +kernel
theorem dX7_way_25 : decode cX7_way 25 = .ok (.iload_n 1, 1) := by decide +kernel
theorem dX7_way_26 : decode cX7_way 26 = .ok (.invokevirtual 201, 3) := by decide +kernel
theorem dX7_way_29 : decode cX7_way 29 = .ok (.ifCond .ne 6, 3) := by decide +kernel
theorem dX7_way_32 : decode cX7_way 32 = .ok (.bipush (-4), 2) := by decide +kernel
theorem dX7_way_34 : decode cX7_way 34 = .ok (.ireturn, 1) := by decide +kernel
theorem dX7_way_35 : decode cX7_way 35 = .ok (.iload_n 2, 1) := by decide +kernel
theorem dX7_way_36 : decode cX7_way 36 = .ok (.iconst (-1), 1) := by decide +kernel
theorem dX7_way_37 : decode cX7_way 37 = .ok (.if_icmp .ne 10, 3) := by decide +kernel
theorem dX7_way_40 : decode cX7_way 40 = .ok (.aload_n 0, 1) := by decide +kernel
theorem dX7_way_41 : decode cX7_way 41 = .ok (.invokevirtual 196, 3) := by decide +kernel
theorem dX7_way_44 : decode cX7_way 44 = .ok (.goto 49, 3) := by decide +kernel
theorem dX7_way_47 : decode cX7_way 47 = .ok (.iload_n 2, 1) := by decide +kernel
theorem dX7_way_48 : decode cX7_way 48 = .ok (.bipush (-2), 2) := by decide +kernel
theorem dX7_way_50 : decode cX7_way 50 = .ok (.if_icmp .ne 17, 3) := by decide +kernel
theorem dX7_way_53 : decode cX7_way 53 = .ok (.aload_n 0, 1) := by decide +kernel
theorem dX7_way_54 : decode cX7_way 54 = .ok (.getfield 52, 3) := by decide +kernel
theorem dX7_way_57 : decode cX7_way 57 = .ok (.aload_n 0, 1) := by decide +kernel
theorem dX7_way_58 : decode cX7_way 58 = .ok (.getfield 7, 3) := by decide +kernel
theorem dX7_way_61 : decode cX7_way 61 = .ok (.iconst 2, 1) := by decide +kernel
theorem dX7_way_62 : decode cX7_way 62 = .ok (.iaload, 1) := by decide +kernel
theorem dX7_way_63 : decode cX7_way 63 = .ok (.iaload, 1) := by decide +kernel
theorem dX7_way_64 : decode cX7_way 64 = .ok (.goto 29, 3) := by decide +kernel
theorem dX7_way_67 : decode cX7_way 67 = .ok (.iload_n 2, 1) := by decide +kernel
theorem dX7_way_68 : decode cX7_way 68 = .ok (.bipush (-3), 2) := by decide +kernel
theorem dX7_way_70 : decode cX7_way 70 = .ok (.if_icmp .ne 17, 3) := by decide +kernel
theorem dX7_way_73 : decode cX7_way 73 = .ok (.aload_n 0, 1) := by decide +kernel
theorem dX7_way_74 : decode cX7_way 74 = .ok (.getfield 55, 3) := by decide +kernel
theorem dX7_way_77 : decode cX7_way 77 = .ok (.aload_n 0, 1) := by decide +kernel
theorem dX7_way_78 : decode cX7_way 78 = .ok (.getfield 7, 3) := by decide +kernel
theorem dX7_way_81 : decode cX7_way 81 = .ok (.iconst 2, 1) := by decide +kernel
theorem dX7_way_82 : decode cX7_way 82 = .ok (.iaload, 1) := by decide +kernel
theorem dX7_way_83 : decode cX7_way 83 = .ok (.iaload, 1) := by decide +kernel
theorem dX7_way_84 : decode cX7_way 84 = .ok (.goto 9, 3) := by decide +kernel
theorem dX7_way_87 : decode cX7_way 87 = .ok (.aload_n 0, 1) := by decide +kernel
theorem dX7_way_88 : decode cX7_way 88 = .ok (.getfield 43, 3) := by decide +kernel
theorem dX7_way_91 : decode cX7_way 91 = .ok (.iload_n 2, 1) := by decide +kernel
theorem dX7_way_92 : decode cX7_way 92 = .ok (.iaload, 1) := by decide +kernel
theorem dX7_way_93 : decode cX7_way 93 = .ok (.ireturn, 1) := by decide +kernel
abbrev W_X7_way (cyI cyJ cyO : ClassId) (h_o a_o_sets a_o_ringFar a_o_ringTone a_o_currents a_o_warmths a_o_depths a_o_tape a_o_readFar a_o_readTone a_o_readSea a_o_code a_o_cellAt a_o_courseAt a_o_paceAt a_o_turnsAt a_o_slowAt a_o_fuelAt a_o_ringAt a_o_pieceParts a_o_dragCell a_o_dragBy a_o_sums a_o_shares a_o_keptFar a_o_image a_o_lanes a_o_sizes a_o_items a_o_movedItems : Nat) (o_taped : Int32) (o_at : Int32) (o_wrong : Int32) (o_level : Int32) (o_noRings : Int32) (o_noTones : Int32) (o_noFuel : Int32) (o_pieces : Int32) (o_drags : Int32) (o_all : Int64) (o_noPieces : Int32) (o_noDrags : Int32) (o_kept : Int32) (o_sets : Nat → Int32) (o_ringFar : Nat → Int32) (o_ringTone : Nat → Int32) (o_code : Nat → Int32) (o_cellAt : Nat → Int32) (o_courseAt : Nat → Int32) (o_paceAt : Nat → Int32) (o_turnsAt : Nat → Int32) (o_slowAt : Nat → Int32) (o_fuelAt : Nat → Int32) (o_ringAt : Nat → Int32) : va_W := [(h_o, .inr (7, [.ref a_o_sets, .ref a_o_ringFar, .ref a_o_ringTone, .ref a_o_currents, .ref a_o_warmths, .ref a_o_depths, .ref a_o_tape, .int o_taped, .int o_at, .int o_wrong, .ref a_o_readFar, .ref a_o_readTone, .ref a_o_readSea, .ref a_o_code, .ref a_o_cellAt, .ref a_o_courseAt, .ref a_o_paceAt, .ref a_o_turnsAt, .ref a_o_slowAt, .ref a_o_fuelAt, .ref a_o_ringAt, .int o_level, .int o_noRings, .int o_noTones, .int o_noFuel, .int o_pieces, .ref a_o_pieceParts, .int o_drags, .ref a_o_dragCell, .ref a_o_dragBy, .ref a_o_sums, .long o_all, .int o_noPieces, .int o_noDrags, .ref a_o_shares, .ref a_o_keptFar, .ref a_o_image, .int o_kept, .ref a_o_lanes, .ref a_o_sizes, .ref a_o_items, .ref a_o_movedItems])), (a_o_sets, .inl (cyI, 8, .inl o_sets)), (a_o_ringFar, .inl (cyI, 7, .inl o_ringFar)), (a_o_ringTone, .inl (cyI, 7, .inl o_ringTone)), (a_o_code, .inl (cyI, 7, .inl o_code)), (a_o_cellAt, .inl (cyI, 7, .inl o_cellAt)), (a_o_courseAt, .inl (cyI, 7, .inl o_courseAt)), (a_o_paceAt, .inl (cyI, 7, .inl o_paceAt)), (a_o_turnsAt, .inl (cyI, 7, .inl o_turnsAt)), (a_o_slowAt, .inl (cyI, 7, .inl o_slowAt)), (a_o_fuelAt, .inl (cyI, 7, .inl o_fuelAt)), (a_o_ringAt, .inl (cyI, 7, .inl o_ringAt))]
def f_X7_way (x1 : Int32) (x2 : Int32) (o_level : Int32) (o_noRings : Int32) (o_noTones : Int32) (o_noFuel : Int32) (o_sets : Nat → Int32) (o_ringFar : Nat → Int32) (o_ringTone : Nat → Int32) (o_code : Nat → Int32) (o_cellAt : Nat → Int32) (o_courseAt : Nat → Int32) (o_paceAt : Nat → Int32) (o_turnsAt : Nat → Int32) (o_slowAt : Nat → Int32) (o_fuelAt : Nat → Int32) (o_ringAt : Nat → Int32) : Option (Int32 × Int32 × Int32 × Int32 × Int32 × (Nat → Int32) × (Nat → Int32) × (Nat → Int32) × (Nat → Int32) × (Nat → Int32) × (Nat → Int32) × (Nat → Int32) × (Nat → Int32)) :=
  if x1 < 0 then
    some ((-1), o_level, o_noRings, o_noTones, o_noFuel, o_code, o_cellAt, o_courseAt, o_paceAt, o_turnsAt, o_slowAt, o_fuelAt, o_ringAt)
  else
    bd1 (f_X7_in x2.toInt64 (-3) ((o_sets 2).toInt64)) fun r_1 =>
    if r_1 = 0 then
      some ((-1), o_level, o_noRings, o_noTones, o_noFuel, o_code, o_cellAt, o_courseAt, o_paceAt, o_turnsAt, o_slowAt, o_fuelAt, o_ringAt)
    else
      bd13 (f_X7_finds x1 o_level o_noRings o_noTones o_noFuel o_sets o_ringFar o_ringTone o_code o_cellAt o_courseAt o_paceAt o_turnsAt o_slowAt o_fuelAt o_ringAt) fun r_2 w_3 w_4 w_5 w_6 w_7 w_8 w_9 w_10 w_11 w_12 w_13 w_14 =>
      if r_2 = 0 then
        some ((-4), w_3, w_4, w_5, w_6, w_7, w_8, w_9, w_10, w_11, w_12, w_13, w_14)
      else
        if x2 = (-1) then
          bd1 (f_X7_heavy o_sets w_11 w_12 w_14) fun r_15 =>
          some (r_15, w_3, w_4, w_5, w_6, w_7, w_8, w_9, w_10, w_11, w_12, w_13, w_14)
        else
          if x2 = (-2) then
            chk (¬ (o_sets 2 < 0 ∨ 7 ≤ (o_sets 2).toNatClampNeg)) <|
            some (w_11 (o_sets 2).toNatClampNeg, w_3, w_4, w_5, w_6, w_7, w_8, w_9, w_10, w_11, w_12, w_13, w_14)
          else
            if x2 = (-3) then
              chk (¬ (o_sets 2 < 0 ∨ 7 ≤ (o_sets 2).toNatClampNeg)) <|
              some (w_12 (o_sets 2).toNatClampNeg, w_3, w_4, w_5, w_6, w_7, w_8, w_9, w_10, w_11, w_12, w_13, w_14)
            else
              chk (¬ (x2 < 0 ∨ 7 ≤ x2.toNatClampNeg)) <|
              some (w_8 x2.toNatClampNeg, w_3, w_4, w_5, w_6, w_7, w_8, w_9, w_10, w_11, w_12, w_13, w_14)
abbrev rm_X7_way : Room := { frames := 5, cells := 0, slots := 0, locals := 121 }
set_option maxRecDepth 100000 in
set_option maxHeartbeats 4000000 in
theorem c_X7_way (l : Launch) (dC : Nat → ClassId) (dI : Nat → Nat → Nat) (cyI cyJ cyO : ClassId) (sz : Nat) (h_o a_o_sets a_o_ringFar a_o_ringTone a_o_currents a_o_warmths a_o_depths a_o_tape a_o_readFar a_o_readTone a_o_readSea a_o_code a_o_cellAt a_o_courseAt a_o_paceAt a_o_turnsAt a_o_slowAt a_o_fuelAt a_o_ringAt a_o_pieceParts a_o_dragCell a_o_dragBy a_o_sums a_o_shares a_o_keptFar a_o_image a_o_lanes a_o_sizes a_o_items a_o_movedItems : Nat) (o_taped : Int32) (o_at : Int32) (o_wrong : Int32) (o_level : Int32) (o_noRings : Int32) (o_noTones : Int32) (o_noFuel : Int32) (o_pieces : Int32) (o_drags : Int32) (o_all : Int64) (o_noPieces : Int32) (o_noDrags : Int32) (o_kept : Int32) (o_sets : Nat → Int32) (o_ringFar : Nat → Int32) (o_ringTone : Nat → Int32) (o_code : Nat → Int32) (o_cellAt : Nat → Int32) (o_courseAt : Nat → Int32) (o_paceAt : Nat → Int32) (o_turnsAt : Nat → Int32) (o_slowAt : Nat → Int32) (o_fuelAt : Nat → Int32) (o_ringAt : Nat → Int32) (x1 : Int32) (x2 : Int32) (post : (Int32 × Int32 × Int32 × Int32 × Int32 × (Nat → Int32) × (Nat → Int32) × (Nat → Int32) × (Nat → Int32) × (Nat → Int32) × (Nat → Int32) × (Nat → Int32) × (Nat → Int32)) → Prop) (hf : okP (f_X7_way x1 x2 o_level o_noRings o_noTones o_noFuel o_sets o_ringFar o_ringTone o_code o_cellAt o_courseAt o_paceAt o_turnsAt o_slowAt o_fuelAt o_ringAt) post) : Ci l (dC, dI) (tyL cyI cyJ cyO) yX7_way wsX7_way rm_X7_way [.ref h_o, .int x1, .int x2] sz (W_X7_way cyI cyJ cyO h_o a_o_sets a_o_ringFar a_o_ringTone a_o_currents a_o_warmths a_o_depths a_o_tape a_o_readFar a_o_readTone a_o_readSea a_o_code a_o_cellAt a_o_courseAt a_o_paceAt a_o_turnsAt a_o_slowAt a_o_fuelAt a_o_ringAt a_o_pieceParts a_o_dragCell a_o_dragBy a_o_sums a_o_shares a_o_keptFar a_o_image a_o_lanes a_o_sizes a_o_items a_o_movedItems o_taped o_at o_wrong o_level o_noRings o_noTones o_noFuel o_pieces o_drags o_all o_noPieces o_noDrags o_kept o_sets o_ringFar o_ringTone o_code o_cellAt o_courseAt o_paceAt o_turnsAt o_slowAt o_fuelAt o_ringAt) zN (fun r u => post (r, u)) (fun u => (W_X7_way cyI cyJ cyO h_o a_o_sets a_o_ringFar a_o_ringTone a_o_currents a_o_warmths a_o_depths a_o_tape a_o_readFar a_o_readTone a_o_readSea a_o_code a_o_cellAt a_o_courseAt a_o_paceAt a_o_turnsAt a_o_slowAt a_o_fuelAt a_o_ringAt a_o_pieceParts a_o_dragCell a_o_dragBy a_o_sums a_o_shares a_o_keptFar a_o_image a_o_lanes a_o_sizes a_o_items a_o_movedItems o_taped o_at o_wrong u.1 u.2.1 u.2.2.1 u.2.2.2.1 o_pieces o_drags o_all o_noPieces o_noDrags o_kept o_sets o_ringFar o_ringTone u.2.2.2.2.1 u.2.2.2.2.2.1 u.2.2.2.2.2.2.1 u.2.2.2.2.2.2.2.1 u.2.2.2.2.2.2.2.2.1 u.2.2.2.2.2.2.2.2.2.1 u.2.2.2.2.2.2.2.2.2.2.1 u.2.2.2.2.2.2.2.2.2.2.2)) := by
  refine Met.ofW (cc := cX7_way) (maxL := 3) (ret := (some .int)) (by decide) rfl ?_
  intro p e s m args below meth c s₁ B hml hv
  obtain ⟨rfl, hsz, hP, hK, hD0, hZ⟩ := hv
  have hx := B.exec
  have hb := B.bytes
  have hr := B.returns
  have hts := atoms_spec (ws := wsX7_way) B.pre
  have hown : s.vm.findClass RX7 = some m.cls := findClass_of_methodNamed B.named
  have hlocks := B.notSynchronized
  subst hsz
  have hD := hD0.self (sz := s.heap.size)
  generalize hAe : va_A (W_X7_way cyI cyJ cyO h_o a_o_sets a_o_ringFar a_o_ringTone a_o_currents a_o_warmths a_o_depths a_o_tape a_o_readFar a_o_readTone a_o_readSea a_o_code a_o_cellAt a_o_courseAt a_o_paceAt a_o_turnsAt a_o_slowAt a_o_fuelAt a_o_ringAt a_o_pieceParts a_o_dragCell a_o_dragBy a_o_sums a_o_shares a_o_keptFar a_o_image a_o_lanes a_o_sizes a_o_items a_o_movedItems o_taped o_at o_wrong o_level o_noRings o_noTones o_noFuel o_pieces o_drags o_all o_noPieces o_noDrags o_kept o_sets o_ringFar o_ringTone o_code o_cellAt o_courseAt o_paceAt o_turnsAt o_slowAt o_fuelAt o_ringAt) s.heap.size = A at hD hZ ⊢
  have hA : ∀ q : Nat, s.heap.size ≤ q → A q := fun q h => by rw [← hAe]; exact Or.inr h
  clear hAe hD0
  have hS : va_S A s.heap s.heap [] := va_S.rf
  have hl := lv_entry ([.ref h_o, .int x1, .int x2]) (n := 3) (Nat.le_of_ble_eq_true rfl)
  rw [lg_entry_eq]
  generalize (lg_sl ([.ref h_o, .int x1, .int x2]) ++ List.replicate (3 - (lg_sl ([.ref h_o, .int x1, .int x2])).length) Slot.unset).toArray = ls at hl ⊢
  have hl : lv_has ls 3 [(0, .ref h_o), (1, .int x1), (2, .int x2)] := hl
  refine kW (fun Q hQ => ?_)
  have hq0 := hts _ (List.mem_cons_of_mem _ q_937)
  have hq1 := hts _ (List.mem_cons_of_mem _ q_706)
  have hi7 : ∀ w ∈ u_ws RX7 TX7 42, w ∈ wsX7_way := fun w h => List.mem_cons_of_mem _ (inX7 w h)
  have hq3 := hts _ (List.mem_cons_of_mem _ q_720)
  have hq4 := hts _ (List.mem_cons_of_mem _ q_724)
  have hq5 := hts _ (List.mem_cons_of_mem _ q_723)
  have hw := hf
  unfold f_X7_way at hw
  have hP : va_P (dC, dI) vwCl (W_X7_way cyI cyJ cyO h_o a_o_sets a_o_ringFar a_o_ringTone a_o_currents a_o_warmths a_o_depths a_o_tape a_o_readFar a_o_readTone a_o_readSea a_o_code a_o_cellAt a_o_courseAt a_o_paceAt a_o_turnsAt a_o_slowAt a_o_fuelAt a_o_ringAt a_o_pieceParts a_o_dragCell a_o_dragBy a_o_sums a_o_shares a_o_keptFar a_o_image a_o_lanes a_o_sizes a_o_items a_o_movedItems o_taped o_at o_wrong o_level o_noRings o_noTones o_noFuel o_pieces o_drags o_all o_noPieces o_noDrags o_kept o_sets o_ringFar o_ringTone o_code o_cellAt o_courseAt o_paceAt o_turnsAt o_slowAt o_fuelAt o_ringAt) s.heap := hP
  obtain ⟨H, hH⟩ : ∃ H, H = s.heap := ⟨_, rfl⟩
  obtain ⟨locs, hlo⟩ : ∃ x : List Loc, x = [] := ⟨_, rfl⟩
  have hP : va_P (dC, dI) vwCl (W_X7_way cyI cyJ cyO h_o a_o_sets a_o_ringFar a_o_ringTone a_o_currents a_o_warmths a_o_depths a_o_tape a_o_readFar a_o_readTone a_o_readSea a_o_code a_o_cellAt a_o_courseAt a_o_paceAt a_o_turnsAt a_o_slowAt a_o_fuelAt a_o_ringAt a_o_pieceParts a_o_dragCell a_o_dragBy a_o_sums a_o_shares a_o_keptFar a_o_image a_o_lanes a_o_sizes a_o_items a_o_movedItems o_taped o_at o_wrong o_level o_noRings o_noTones o_noFuel o_pieces o_drags o_all o_noPieces o_noDrags o_kept o_sets o_ringFar o_ringTone o_code o_cellAt o_courseAt o_paceAt o_turnsAt o_slowAt o_fuelAt o_ringAt) H := by rw [hH]; exact hP
  have hS : va_S A s.heap H locs := by rw [hH, hlo]; exact hS
  refine kH hH hlo ?_
  clear hH hlo
  refine lv_iload_n hx hb dX7_way_0 rfl (lv_at hl 1 rfl) ?_
  refine lv_if_lt (tgt := 22) hx hb dX7_way_1 (by decide) (fun c_1 => ?_) (fun c_1 => ?_)
  · replace hw := okT hw c_1
    clear c_1
    refine lv_iconst (v := (-1)) hx hb dX7_way_22 (by decide) ?_
    rw [hQ]
    exact W.iret (v := (-1)) hx hb hr (fun t ht hW => ⟨⟨(-1), (o_level, o_noRings, o_noTones, o_noFuel, o_code, o_cellAt, o_courseAt, o_paceAt, o_turnsAt, o_slowAt, o_fuelAt, o_ringAt), rfl, okS hw, by rw [ht]; exact hP, va_K.moved hW.alike hK, hD⟩, hS.F ht⟩) hS.2.2 dX7_way_23
  · replace hw := okF hw c_1
    clear c_1
    refine lv_iload_n hx hb dX7_way_4 rfl (lv_at hl 2 rfl) ?_
    refine lv_i2l (v := x2.toInt64) hx hb dX7_way_5 rfl ?_
    refine lv_ldc2 (v := (-3)) hx hb hown hq0 dX7_way_6 ?_
    refine lv_aload_n hx hb dX7_way_9 rfl (lv_at hl 0 rfl) ?_
    refine va_get (D := (dC, dI)) (ci := 7) (v := .ref a_o_sets) (C := RX7) (T := TX7) (N := 42) hx hb hts hi7 hown hK hP 0 rfl rfl 0 (by decide) hq1 (fun _ h9 => h9) rfl dX7_way_10 ?_
    refine lv_iconst (v := 2) hx hb dX7_way_13 (by decide) ?_
    refine va_iald (i := 2) hx hb hK hP 1 0 rfl rfl (show ¬ _ by decide) dX7_way_14 ?_
    refine lv_i2l (v := (o_sets 2).toInt64) hx hb dX7_way_15 rfl ?_
    have hFc := va_free (wc := []) hD hS hA [] rfl
    refine kp_i (va_runS (As := [.long x2.toInt64, .long (-3), .long ((o_sets 2).toInt64)]) (rest := []) ⟨hx, hb, hml, hown, hts⟩ (c_X7_in l dC dI cyI cyJ cyO H.size x2.toInt64 (-3) ((o_sets 2).toInt64) _ (okb1 hw)) (va_cwS 3 hts (gdS (fun w h => List.mem_cons_of_mem _ h) q_838 q_839 q_8 q_840) rfl rfl rfl (by decide +kernel) ⟨Nat.le_of_ble_eq_true rfl, Nat.le_of_ble_eq_true rfl⟩) (kpre zN_ok hK va_P0 va_D0 trivial hS hFc) rfl rfl hl.1 rfl (lv_room (Nat.le_of_ble_eq_true rfl)) dX7_way_16 ⟨Nat.le_of_ble_eq_true rfl, Nat.le_of_ble_eq_true rfl⟩) hP hD hS hFc (fun r_2 H locs hw hP hS => ?_)
    try dsimp only at hw
    clear hFc
    refine lv_if_ne (tgt := 24) hx hb dX7_way_19 (by decide) (fun c_3 => ?_) (fun c_3 => ?_)
    · replace hw := okF hw c_3
      clear c_3
      refine lv_aload_n hx hb dX7_way_24 rfl (lv_at hl 0 rfl) ?_
      refine lv_iload_n hx hb dX7_way_25 rfl (lv_at hl 1 rfl) ?_
      have hPc := hP.sub (ws' := (W_X7_finds cyI cyJ cyO h_o a_o_sets a_o_ringFar a_o_ringTone a_o_currents a_o_warmths a_o_depths a_o_tape a_o_readFar a_o_readTone a_o_readSea a_o_code a_o_cellAt a_o_courseAt a_o_paceAt a_o_turnsAt a_o_slowAt a_o_fuelAt a_o_ringAt a_o_pieceParts a_o_dragCell a_o_dragBy a_o_sums a_o_shares a_o_keptFar a_o_image a_o_lanes a_o_sizes a_o_items a_o_movedItems o_taped o_at o_wrong o_level o_noRings o_noTones o_noFuel o_pieces o_drags o_all o_noPieces o_noDrags o_kept o_sets o_ringFar o_ringTone o_code o_cellAt o_courseAt o_paceAt o_turnsAt o_slowAt o_fuelAt o_ringAt)) [0, 1, 2, 3, 4, 5, 6, 7, 8, 9, 10, 11] rfl
      have hDc := hD.sub (ws' := (W_X7_finds cyI cyJ cyO h_o a_o_sets a_o_ringFar a_o_ringTone a_o_currents a_o_warmths a_o_depths a_o_tape a_o_readFar a_o_readTone a_o_readSea a_o_code a_o_cellAt a_o_courseAt a_o_paceAt a_o_turnsAt a_o_slowAt a_o_fuelAt a_o_ringAt a_o_pieceParts a_o_dragCell a_o_dragBy a_o_sums a_o_shares a_o_keptFar a_o_image a_o_lanes a_o_sizes a_o_items a_o_movedItems o_taped o_at o_wrong o_level o_noRings o_noTones o_noFuel o_pieces o_drags o_all o_noPieces o_noDrags o_kept o_sets o_ringFar o_ringTone o_code o_cellAt o_courseAt o_paceAt o_turnsAt o_slowAt o_fuelAt o_ringAt)) [0, 1, 2, 3, 4, 5, 6, 7, 8, 9, 10, 11] (by decide +kernel) rfl
      have hFc := va_free (wc := (W_X7_finds cyI cyJ cyO h_o a_o_sets a_o_ringFar a_o_ringTone a_o_currents a_o_warmths a_o_depths a_o_tape a_o_readFar a_o_readTone a_o_readSea a_o_code a_o_cellAt a_o_courseAt a_o_paceAt a_o_turnsAt a_o_slowAt a_o_fuelAt a_o_ringAt a_o_pieceParts a_o_dragCell a_o_dragBy a_o_sums a_o_shares a_o_keptFar a_o_image a_o_lanes a_o_sizes a_o_items a_o_movedItems o_taped o_at o_wrong o_level o_noRings o_noTones o_noFuel o_pieces o_drags o_all o_noPieces o_noDrags o_kept o_sets o_ringFar o_ringTone o_code o_cellAt o_courseAt o_paceAt o_turnsAt o_slowAt o_fuelAt o_ringAt)) hD hS hA [0, 1, 2, 3, 4, 5, 6, 7, 8, 9, 10, 11] rfl
      refine kc_i (wr := []) (va_runV (As := [.int x1]) (rest := []) ⟨hx, hb, hml, hown, hts⟩ (c_X7_finds l dC dI cyI cyJ cyO H.size h_o a_o_sets a_o_ringFar a_o_ringTone a_o_currents a_o_warmths a_o_depths a_o_tape a_o_readFar a_o_readTone a_o_readSea a_o_code a_o_cellAt a_o_courseAt a_o_paceAt a_o_turnsAt a_o_slowAt a_o_fuelAt a_o_ringAt a_o_pieceParts a_o_dragCell a_o_dragBy a_o_sums a_o_shares a_o_keptFar a_o_image a_o_lanes a_o_sizes a_o_items a_o_movedItems o_taped o_at o_wrong o_level o_noRings o_noTones o_noFuel o_pieces o_drags o_all o_noPieces o_noDrags o_kept o_sets o_ringFar o_ringTone o_code o_cellAt o_courseAt o_paceAt o_turnsAt o_slowAt o_fuelAt o_ringAt x1 _ (okb13 hw)) (cwV 1 hts (gdV (fun w h => List.mem_cons_of_mem _ h) q_938 q_940 qs_34 q_8 q_941) rfl rfl rfl (by decide +kernel) ⟨Nat.le_of_ble_eq_true rfl, Nat.le_of_ble_eq_true rfl⟩) ⟨(kpre zN_ok hK hPc hDc trivial hS hFc).1, va_recv hK hP (ci := 7) (q0 := 0) rfl rfl, (kpre zN_ok hK hPc hDc trivial hS hFc).2⟩ rfl rfl hl.1 rfl (lv_room (Nat.le_of_ble_eq_true rfl)) dX7_way_26 ⟨Nat.le_of_ble_eq_true rfl, Nat.le_of_ble_eq_true rfl⟩) hP hD hS hFc [0, 1, 2, 3, 4, 5, 6, 7, 8, 9, 10, 11] [] rfl rfl (by decide +kernel) (by decide +kernel) (fun r_4 u H locs hw hP hD hS => ?_)
      obtain ⟨w_5, w_6, w_7, w_8, w_9, w_10, w_11, w_12, w_13, w_14, w_15, w_16⟩ := u
      try dsimp only at hw
      have hP : va_P (dC, dI) vwCl (W_X7_way cyI cyJ cyO h_o a_o_sets a_o_ringFar a_o_ringTone a_o_currents a_o_warmths a_o_depths a_o_tape a_o_readFar a_o_readTone a_o_readSea a_o_code a_o_cellAt a_o_courseAt a_o_paceAt a_o_turnsAt a_o_slowAt a_o_fuelAt a_o_ringAt a_o_pieceParts a_o_dragCell a_o_dragBy a_o_sums a_o_shares a_o_keptFar a_o_image a_o_lanes a_o_sizes a_o_items a_o_movedItems o_taped o_at o_wrong w_5 w_6 w_7 w_8 o_pieces o_drags o_all o_noPieces o_noDrags o_kept o_sets o_ringFar o_ringTone w_9 w_10 w_11 w_12 w_13 w_14 w_15 w_16) H := hP.sub [0, 1, 2, 3, 4, 5, 6, 7, 8, 9, 10, 11] rfl
      have hD : va_D A (W_X7_way cyI cyJ cyO h_o a_o_sets a_o_ringFar a_o_ringTone a_o_currents a_o_warmths a_o_depths a_o_tape a_o_readFar a_o_readTone a_o_readSea a_o_code a_o_cellAt a_o_courseAt a_o_paceAt a_o_turnsAt a_o_slowAt a_o_fuelAt a_o_ringAt a_o_pieceParts a_o_dragCell a_o_dragBy a_o_sums a_o_shares a_o_keptFar a_o_image a_o_lanes a_o_sizes a_o_items a_o_movedItems o_taped o_at o_wrong w_5 w_6 w_7 w_8 o_pieces o_drags o_all o_noPieces o_noDrags o_kept o_sets o_ringFar o_ringTone w_9 w_10 w_11 w_12 w_13 w_14 w_15 w_16) := hD.sub [0, 1, 2, 3, 4, 5, 6, 7, 8, 9, 10, 11] (by decide +kernel) rfl
      clear hPc hDc hFc
      refine lv_if_ne (tgt := 35) hx hb dX7_way_29 (by decide) (fun c_17 => ?_) (fun c_17 => ?_)
      · replace hw := okF hw c_17
        clear c_17
        refine lv_iload_n hx hb dX7_way_35 rfl (lv_at hl 2 rfl) ?_
        refine lv_iconst (v := (-1)) hx hb dX7_way_36 (by decide) ?_
        refine lv_icmp_ne (tgt := 47) hx hb dX7_way_37 (by decide) (fun c_18 => ?_) (fun c_18 => ?_)
        · replace hw := okF hw c_18
          clear c_18
          refine lv_iload_n hx hb dX7_way_47 rfl (lv_at hl 2 rfl) ?_
          refine lv_bipush (v := (-2)) hx hb dX7_way_48 (by decide) ?_
          refine lv_icmp_ne (tgt := 67) hx hb dX7_way_50 (by decide) (fun c_19 => ?_) (fun c_19 => ?_)
          · replace hw := okF hw c_19
            clear c_19
            refine lv_iload_n hx hb dX7_way_67 rfl (lv_at hl 2 rfl) ?_
            refine lv_bipush (v := (-3)) hx hb dX7_way_68 (by decide) ?_
            refine lv_icmp_ne (tgt := 87) hx hb dX7_way_70 (by decide) (fun c_20 => ?_) (fun c_20 => ?_)
            · replace hw := okF hw c_20
              clear c_20
              refine lv_aload_n hx hb dX7_way_87 rfl (lv_at hl 0 rfl) ?_
              refine va_get (D := (dC, dI)) (ci := 7) (v := .ref a_o_cellAt) (C := RX7) (T := TX7) (N := 42) hx hb hts hi7 hown hK hP 0 rfl rfl 14 (by decide) hq3 (fun _ h9 => h9) rfl dX7_way_88 ?_
              refine lv_iload_n hx hb dX7_way_91 rfl (lv_at hl 2 rfl) ?_
              obtain ⟨h_21, hw⟩ := okC hw
              refine va_iald (i := x2) hx hb hK hP 5 0 rfl rfl h_21 dX7_way_92 ?_
              rw [hQ]
              exact W.iret (v := w_10 x2.toNatClampNeg) hx hb hr (fun t ht hW => ⟨⟨w_10 x2.toNatClampNeg, (w_5, w_6, w_7, w_8, w_9, w_10, w_11, w_12, w_13, w_14, w_15, w_16), rfl, okS hw, by rw [ht]; exact hP, va_K.moved hW.alike hK, hD⟩, hS.F ht⟩) hS.2.2 dX7_way_93
            · replace hw := okT hw c_20
              clear c_20
              refine lv_aload_n hx hb dX7_way_73 rfl (lv_at hl 0 rfl) ?_
              refine va_get (D := (dC, dI)) (ci := 7) (v := .ref a_o_slowAt) (C := RX7) (T := TX7) (N := 42) hx hb hts hi7 hown hK hP 0 rfl rfl 18 (by decide) hq4 (fun _ h9 => h9) rfl dX7_way_74 ?_
              refine lv_aload_n hx hb dX7_way_77 rfl (lv_at hl 0 rfl) ?_
              refine va_get (D := (dC, dI)) (ci := 7) (v := .ref a_o_sets) (C := RX7) (T := TX7) (N := 42) hx hb hts hi7 hown hK hP 0 rfl rfl 0 (by decide) hq1 (fun _ h9 => h9) rfl dX7_way_78 ?_
              refine lv_iconst (v := 2) hx hb dX7_way_81 (by decide) ?_
              refine va_iald (i := 2) hx hb hK hP 1 0 rfl rfl (show ¬ _ by decide) dX7_way_82 ?_
              obtain ⟨h_22, hw⟩ := okC hw
              refine va_iald (i := o_sets 2) hx hb hK hP 9 0 rfl rfl h_22 dX7_way_83 ?_
              refine lv_goto (tgt := 93) hx hb dX7_way_84 (by decide) ?_
              rw [hQ]
              exact W.iret (v := w_14 (o_sets 2).toNatClampNeg) hx hb hr (fun t ht hW => ⟨⟨w_14 (o_sets 2).toNatClampNeg, (w_5, w_6, w_7, w_8, w_9, w_10, w_11, w_12, w_13, w_14, w_15, w_16), rfl, okS hw, by rw [ht]; exact hP, va_K.moved hW.alike hK, hD⟩, hS.F ht⟩) hS.2.2 dX7_way_93
          · replace hw := okT hw c_19
            clear c_19
            refine lv_aload_n hx hb dX7_way_53 rfl (lv_at hl 0 rfl) ?_
            refine va_get (D := (dC, dI)) (ci := 7) (v := .ref a_o_turnsAt) (C := RX7) (T := TX7) (N := 42) hx hb hts hi7 hown hK hP 0 rfl rfl 17 (by decide) hq5 (fun _ h9 => h9) rfl dX7_way_54 ?_
            refine lv_aload_n hx hb dX7_way_57 rfl (lv_at hl 0 rfl) ?_
            refine va_get (D := (dC, dI)) (ci := 7) (v := .ref a_o_sets) (C := RX7) (T := TX7) (N := 42) hx hb hts hi7 hown hK hP 0 rfl rfl 0 (by decide) hq1 (fun _ h9 => h9) rfl dX7_way_58 ?_
            refine lv_iconst (v := 2) hx hb dX7_way_61 (by decide) ?_
            refine va_iald (i := 2) hx hb hK hP 1 0 rfl rfl (show ¬ _ by decide) dX7_way_62 ?_
            obtain ⟨h_23, hw⟩ := okC hw
            refine va_iald (i := o_sets 2) hx hb hK hP 8 0 rfl rfl h_23 dX7_way_63 ?_
            refine lv_goto (tgt := 93) hx hb dX7_way_64 (by decide) ?_
            rw [hQ]
            exact W.iret (v := w_13 (o_sets 2).toNatClampNeg) hx hb hr (fun t ht hW => ⟨⟨w_13 (o_sets 2).toNatClampNeg, (w_5, w_6, w_7, w_8, w_9, w_10, w_11, w_12, w_13, w_14, w_15, w_16), rfl, okS hw, by rw [ht]; exact hP, va_K.moved hW.alike hK, hD⟩, hS.F ht⟩) hS.2.2 dX7_way_93
        · replace hw := okT hw c_18
          clear c_18
          refine lv_aload_n hx hb dX7_way_40 rfl (lv_at hl 0 rfl) ?_
          have hPc := hP.sub (ws' := (W_X7_heavy cyI cyJ cyO h_o a_o_sets a_o_ringFar a_o_ringTone a_o_currents a_o_warmths a_o_depths a_o_tape a_o_readFar a_o_readTone a_o_readSea a_o_code a_o_cellAt a_o_courseAt a_o_paceAt a_o_turnsAt a_o_slowAt a_o_fuelAt a_o_ringAt a_o_pieceParts a_o_dragCell a_o_dragBy a_o_sums a_o_shares a_o_keptFar a_o_image a_o_lanes a_o_sizes a_o_items a_o_movedItems o_taped o_at o_wrong w_5 w_6 w_7 w_8 o_pieces o_drags o_all o_noPieces o_noDrags o_kept o_sets w_13 w_14 w_16)) [0, 1, 8, 9, 11] rfl
          have hDc := hD.sub (ws' := (W_X7_heavy cyI cyJ cyO h_o a_o_sets a_o_ringFar a_o_ringTone a_o_currents a_o_warmths a_o_depths a_o_tape a_o_readFar a_o_readTone a_o_readSea a_o_code a_o_cellAt a_o_courseAt a_o_paceAt a_o_turnsAt a_o_slowAt a_o_fuelAt a_o_ringAt a_o_pieceParts a_o_dragCell a_o_dragBy a_o_sums a_o_shares a_o_keptFar a_o_image a_o_lanes a_o_sizes a_o_items a_o_movedItems o_taped o_at o_wrong w_5 w_6 w_7 w_8 o_pieces o_drags o_all o_noPieces o_noDrags o_kept o_sets w_13 w_14 w_16)) [0, 1, 8, 9, 11] (by decide +kernel) rfl
          have hFc := va_free (wc := (W_X7_heavy cyI cyJ cyO h_o a_o_sets a_o_ringFar a_o_ringTone a_o_currents a_o_warmths a_o_depths a_o_tape a_o_readFar a_o_readTone a_o_readSea a_o_code a_o_cellAt a_o_courseAt a_o_paceAt a_o_turnsAt a_o_slowAt a_o_fuelAt a_o_ringAt a_o_pieceParts a_o_dragCell a_o_dragBy a_o_sums a_o_shares a_o_keptFar a_o_image a_o_lanes a_o_sizes a_o_items a_o_movedItems o_taped o_at o_wrong w_5 w_6 w_7 w_8 o_pieces o_drags o_all o_noPieces o_noDrags o_kept o_sets w_13 w_14 w_16)) hD hS hA [0, 1, 8, 9, 11] rfl
          refine kc_i (wr := [(a_o_ringFar, .inl (cyI, 7, .inl o_ringFar)), (a_o_ringTone, .inl (cyI, 7, .inl o_ringTone)), (a_o_code, .inl (cyI, 7, .inl w_9)), (a_o_cellAt, .inl (cyI, 7, .inl w_10)), (a_o_courseAt, .inl (cyI, 7, .inl w_11)), (a_o_paceAt, .inl (cyI, 7, .inl w_12)), (a_o_fuelAt, .inl (cyI, 7, .inl w_15))]) (va_runV (As := []) (rest := []) ⟨hx, hb, hml, hown, hts⟩ (c_X7_heavy l dC dI cyI cyJ cyO H.size h_o a_o_sets a_o_ringFar a_o_ringTone a_o_currents a_o_warmths a_o_depths a_o_tape a_o_readFar a_o_readTone a_o_readSea a_o_code a_o_cellAt a_o_courseAt a_o_paceAt a_o_turnsAt a_o_slowAt a_o_fuelAt a_o_ringAt a_o_pieceParts a_o_dragCell a_o_dragBy a_o_sums a_o_shares a_o_keptFar a_o_image a_o_lanes a_o_sizes a_o_items a_o_movedItems o_taped o_at o_wrong w_5 w_6 w_7 w_8 o_pieces o_drags o_all o_noPieces o_noDrags o_kept o_sets w_13 w_14 w_16 _ (okb1 hw)) (cwV 0 hts (gdV (fun w h => List.mem_cons_of_mem _ h) q_929 q_931 qs_33 q_8 q_932) rfl rfl rfl (by decide +kernel) ⟨Nat.le_of_ble_eq_true rfl, Nat.le_of_ble_eq_true rfl⟩) ⟨(kpre zN_ok hK hPc hDc trivial hS hFc).1, va_recv hK hP (ci := 7) (q0 := 0) rfl rfl, (kpre zN_ok hK hPc hDc trivial hS hFc).2⟩ rfl rfl hl.1 rfl (lv_room (Nat.le_of_ble_eq_true rfl)) dX7_way_41 ⟨Nat.le_of_ble_eq_true rfl, Nat.le_of_ble_eq_true rfl⟩) hP hD hS hFc [0, 1, 8, 9, 11] [2, 3, 4, 5, 6, 7, 10] rfl rfl (by decide +kernel) (by decide +kernel) (fun r_24 u H locs hw hP hD hS => ?_)
          try dsimp only at hw
          have hP : va_P (dC, dI) vwCl (W_X7_way cyI cyJ cyO h_o a_o_sets a_o_ringFar a_o_ringTone a_o_currents a_o_warmths a_o_depths a_o_tape a_o_readFar a_o_readTone a_o_readSea a_o_code a_o_cellAt a_o_courseAt a_o_paceAt a_o_turnsAt a_o_slowAt a_o_fuelAt a_o_ringAt a_o_pieceParts a_o_dragCell a_o_dragBy a_o_sums a_o_shares a_o_keptFar a_o_image a_o_lanes a_o_sizes a_o_items a_o_movedItems o_taped o_at o_wrong w_5 w_6 w_7 w_8 o_pieces o_drags o_all o_noPieces o_noDrags o_kept o_sets o_ringFar o_ringTone w_9 w_10 w_11 w_12 w_13 w_14 w_15 w_16) H := hP.sub [7, 8, 0, 1, 2, 3, 4, 5, 9, 10, 6, 11] rfl
          have hD : va_D A (W_X7_way cyI cyJ cyO h_o a_o_sets a_o_ringFar a_o_ringTone a_o_currents a_o_warmths a_o_depths a_o_tape a_o_readFar a_o_readTone a_o_readSea a_o_code a_o_cellAt a_o_courseAt a_o_paceAt a_o_turnsAt a_o_slowAt a_o_fuelAt a_o_ringAt a_o_pieceParts a_o_dragCell a_o_dragBy a_o_sums a_o_shares a_o_keptFar a_o_image a_o_lanes a_o_sizes a_o_items a_o_movedItems o_taped o_at o_wrong w_5 w_6 w_7 w_8 o_pieces o_drags o_all o_noPieces o_noDrags o_kept o_sets o_ringFar o_ringTone w_9 w_10 w_11 w_12 w_13 w_14 w_15 w_16) := hD.sub [7, 8, 0, 1, 2, 3, 4, 5, 9, 10, 6, 11] (by decide +kernel) rfl
          clear hPc hDc hFc
          refine lv_goto (tgt := 93) hx hb dX7_way_44 (by decide) ?_
          rw [hQ]
          exact W.iret (v := r_24) hx hb hr (fun t ht hW => ⟨⟨r_24, (w_5, w_6, w_7, w_8, w_9, w_10, w_11, w_12, w_13, w_14, w_15, w_16), rfl, okS hw, by rw [ht]; exact hP, va_K.moved hW.alike hK, hD⟩, hS.F ht⟩) hS.2.2 dX7_way_93
      · replace hw := okT hw c_17
        clear c_17
        refine lv_bipush (v := (-4)) hx hb dX7_way_32 (by decide) ?_
        rw [hQ]
        exact W.iret (v := (-4)) hx hb hr (fun t ht hW => ⟨⟨(-4), (w_5, w_6, w_7, w_8, w_9, w_10, w_11, w_12, w_13, w_14, w_15, w_16), rfl, okS hw, by rw [ht]; exact hP, va_K.moved hW.alike hK, hD⟩, hS.F ht⟩) hS.2.2 dX7_way_34
    · replace hw := okT hw c_3
      clear c_3
      refine lv_iconst (v := (-1)) hx hb dX7_way_22 (by decide) ?_
      rw [hQ]
      exact W.iret (v := (-1)) hx hb hr (fun t ht hW => ⟨⟨(-1), (o_level, o_noRings, o_noTones, o_noFuel, o_code, o_cellAt, o_courseAt, o_paceAt, o_turnsAt, o_slowAt, o_fuelAt, o_ringAt), rfl, okS hw, by rw [ht]; exact hP, va_K.moved hW.alike hK, hD⟩, hS.F ht⟩) hS.2.2 dX7_way_23
/-! ===== X7_may ===== -/
theorem dX7_may_0 : decode cX7_may 0 = .ok (.iload_n 1, 1) := by decide +kernel
theorem dX7_may_1 : decode cX7_may 1 = .ok (.i2l, 1) := by decide +kernel
theorem dX7_may_2 : decode cX7_may 2 = .ok (.lconst 0, 1) := by decide +kernel
theorem dX7_may_3 : decode cX7_may 3 = .ok (.aload_n 0, 1) := by decide +kernel
theorem dX7_may_4 : decode cX7_may 4 = .ok (.getfield 7, 3) := by decide +kernel
theorem dX7_may_7 : decode cX7_may 7 = .ok (.iconst 2, 1) := by decide +kernel
theorem dX7_may_8 : decode cX7_may 8 = .ok (.iaload, 1) := by decide +kernel
theorem dX7_may_9 : decode cX7_may 9 = .ok (.i2l, 1) := by decide +kernel
theorem dX7_may_10 : decode cX7_may 10 = .ok (.invokestatic 100, 3) := by decide +kernel
theorem dX7_may_13 : decode cX7_may 13 = .ok (.ifCond .eq 15, 3) := by decide +kernel
theorem dX7_may_16 : decode cX7_may 16 = .ok (.iload_n 2, 1) := by decide +kernel
theorem dX7_may_17 : decode cX7_may 17 = .ok (.i2l, 1) := by decide +kernel
theorem dX7_may_18 : decode cX7_may 18 = .ok (.lconst 0, 1) := by decide +kernel
theorem dX7_may_19 : decode cX7_may 19 = .ok (.ldc2_w 111, 3) := by decide +kernel
theorem dX7_may_22 : decode cX7_may 22 = .ok (.invokestatic 100, 3) := by decide +kernel
theorem dX7_may_25 : decode cX7_may 25 = .ok (.ifCond .ne 5, 3) := by decide +kernel
theorem dX7_may_28 : decode cX7_may 28 = .ok (.iconst (-1), 1) := by decide +kernel
theorem dX7_may_29 : decode cX7_may 29 = .ok (.ireturn, 1) := by decide +kernel
theorem dX7_may_30 : decode cX7_may 30 = .ok (.aload_n 0, 1) := by decide +kernel
theorem dX7_may_31 : decode cX7_may 31 = .ok (.invokevirtual 187, 3) := by decide +kernel
theorem dX7_may_34 : decode cX7_may 34 = .ok (.aload_n 0, 1) := by decide +kernel
theorem dX7_may_35 : decode cX7_may 35 = .ok (.invokevirtual 190, 3) := by decide +kernel
theorem dX7_may_38 : decode cX7_may 38 = .ok (.iconst 0, 1) := by decide +kernel
theorem dX7_may_39 : decode cX7_may 39 = .ok (.istore_n 3, 1) := by decide +kernel
theorem dX7_may_40 : decode cX7_may 40 = .ok (.aload_n 0, 1) := by decide +kernel
theorem dX7_may_41 : decode cX7_may 41 = .ok (.invokevirtual 193, 3) := by decide +kernel
theorem dX7_may_44 : decode cX7_may 44 = .ok (.ifCond .eq 37, 3) := by decide +kernel
theorem dX7_may_47 : decode cX7_may 47 = .ok (.iload_n 3, 1) := by decide +kernel
theorem dX7_may_48 : decode cX7_may 48 = .ok (.aload_n 0, 1) := by decide +kernel
theorem dX7_may_49 : decode cX7_may 49 = .ok (.getfield 43, 3) := by decide +kernel
theorem dX7_may_52 : decode cX7_may 52 = .ok (.iload_n 1, 1) := by decide +kernel
theorem dX7_may_53 : decode cX7_may 53 = .ok (.iaload, 1) := by decide +kernel
theorem dX7_may_54 : decode cX7_may 54 = .ok (.bipush 10, 2) := by decide +kernel
theorem dX7_may_56 : decode cX7_may 56 = .ok (.idiv, 1) := by decide +kernel
theorem dX7_may_57 : decode cX7_may 57 = .ok (.iload_n 2, 1) := by decide +kernel
theorem dX7_may_58 : decode cX7_may 58 = .ok (.if_icmp .ne 17, 3) := by decide +kernel
theorem dX7_may_61 : decode cX7_may 61 = .ok (.iconst 1, 1) := by decide +kernel
theorem dX7_may_62 : decode cX7_may 62 = .ok (.aload_n 0, 1) := by decide +kernel
theorem dX7_may_63 : decode cX7_may 63 = .ok (.getfield 43, 3) := by decide +kernel
theorem dX7_may_66 : decode cX7_may 66 = .ok (.iload_n 1, 1) := by decide +kernel
theorem dX7_may_67 : decode cX7_may 67 = .ok (.iaload, 1) := by decide +kernel
theorem dX7_may_68 : decode cX7_may 68 = .ok (.bipush 10, 2) := by decide +kernel
theorem dX7_may_70 : decode cX7_may 70 = .ok (.irem, 1) := by decide +kernel
theorem dX7_may_71 : decode cX7_may 71 = .ok (.ishl, 1) := by decide +kernel
theorem dX7_may_72 : decode cX7_may 72 = .ok (.goto 4, 3) := by decide +kernel
theorem dX7_may_75 : decode cX7_may 75 = .ok (.iconst 0, 1) := by decide +kernel
theorem dX7_may_76 : decode cX7_may 76 = .ok (.ior, 1) := by decide +kernel
theorem dX7_may_77 : decode cX7_may 77 = .ok (.istore_n 3, 1) := by decide +kernel
theorem dX7_may_78 : decode cX7_may 78 = .ok (.goto (-38), 3) := by decide +kernel
theorem dX7_may_81 : decode cX7_may 81 = .ok (.iload_n 3, 1) := by decide +kernel
theorem dX7_may_82 : decode cX7_may 82 = .ok (.ireturn, 1) := by decide +kernel
abbrev W_X7_may (cyI cyJ cyO : ClassId) (h_o a_o_sets a_o_ringFar a_o_ringTone a_o_currents a_o_warmths a_o_depths a_o_tape a_o_readFar a_o_readTone a_o_readSea a_o_code a_o_cellAt a_o_courseAt a_o_paceAt a_o_turnsAt a_o_slowAt a_o_fuelAt a_o_ringAt a_o_pieceParts a_o_dragCell a_o_dragBy a_o_sums a_o_shares a_o_keptFar a_o_image a_o_lanes a_o_sizes a_o_items a_o_movedItems : Nat) (o_taped : Int32) (o_at : Int32) (o_wrong : Int32) (o_level : Int32) (o_noRings : Int32) (o_noTones : Int32) (o_noFuel : Int32) (o_pieces : Int32) (o_drags : Int32) (o_all : Int64) (o_noPieces : Int32) (o_noDrags : Int32) (o_kept : Int32) (o_sets : Nat → Int32) (o_ringFar : Nat → Int32) (o_ringTone : Nat → Int32) (o_code : Nat → Int32) (o_cellAt : Nat → Int32) (o_courseAt : Nat → Int32) (o_paceAt : Nat → Int32) (o_turnsAt : Nat → Int32) (o_slowAt : Nat → Int32) (o_fuelAt : Nat → Int32) (o_ringAt : Nat → Int32) : va_W := [(h_o, .inr (7, [.ref a_o_sets, .ref a_o_ringFar, .ref a_o_ringTone, .ref a_o_currents, .ref a_o_warmths, .ref a_o_depths, .ref a_o_tape, .int o_taped, .int o_at, .int o_wrong, .ref a_o_readFar, .ref a_o_readTone, .ref a_o_readSea, .ref a_o_code, .ref a_o_cellAt, .ref a_o_courseAt, .ref a_o_paceAt, .ref a_o_turnsAt, .ref a_o_slowAt, .ref a_o_fuelAt, .ref a_o_ringAt, .int o_level, .int o_noRings, .int o_noTones, .int o_noFuel, .int o_pieces, .ref a_o_pieceParts, .int o_drags, .ref a_o_dragCell, .ref a_o_dragBy, .ref a_o_sums, .long o_all, .int o_noPieces, .int o_noDrags, .ref a_o_shares, .ref a_o_keptFar, .ref a_o_image, .int o_kept, .ref a_o_lanes, .ref a_o_sizes, .ref a_o_items, .ref a_o_movedItems])), (a_o_sets, .inl (cyI, 8, .inl o_sets)), (a_o_ringFar, .inl (cyI, 7, .inl o_ringFar)), (a_o_ringTone, .inl (cyI, 7, .inl o_ringTone)), (a_o_code, .inl (cyI, 7, .inl o_code)), (a_o_cellAt, .inl (cyI, 7, .inl o_cellAt)), (a_o_courseAt, .inl (cyI, 7, .inl o_courseAt)), (a_o_paceAt, .inl (cyI, 7, .inl o_paceAt)), (a_o_turnsAt, .inl (cyI, 7, .inl o_turnsAt)), (a_o_slowAt, .inl (cyI, 7, .inl o_slowAt)), (a_o_fuelAt, .inl (cyI, 7, .inl o_fuelAt)), (a_o_ringAt, .inl (cyI, 7, .inl o_ringAt))]
def f_X7_may_B76 (k40 : Int32 → Int32 → Int32 → Int32 → Int32 → Int32 → Int32 → (Nat → Int32) → (Nat → Int32) → (Nat → Int32) → (Nat → Int32) → (Nat → Int32) → (Nat → Int32) → (Nat → Int32) → (Nat → Int32) → (Nat → Int32) → (Nat → Int32) → (Nat → Int32) → Option (Int32 × Int32 × Int32 × Int32 × Int32 × (Nat → Int32) × (Nat → Int32) × (Nat → Int32) × (Nat → Int32) × (Nat → Int32) × (Nat → Int32) × (Nat → Int32) × (Nat → Int32))) (v1 : Int32) (v2 : Int32) (y0 : Int32) (y1 : Int32) (o_level : Int32) (o_noRings : Int32) (o_noTones : Int32) (o_noFuel : Int32) (o_sets : Nat → Int32) (o_ringFar : Nat → Int32) (o_ringTone : Nat → Int32) (o_code : Nat → Int32) (o_cellAt : Nat → Int32) (o_courseAt : Nat → Int32) (o_paceAt : Nat → Int32) (o_turnsAt : Nat → Int32) (o_slowAt : Nat → Int32) (o_fuelAt : Nat → Int32) (o_ringAt : Nat → Int32) : Option (Int32 × Int32 × Int32 × Int32 × Int32 × (Nat → Int32) × (Nat → Int32) × (Nat → Int32) × (Nat → Int32) × (Nat → Int32) × (Nat → Int32) × (Nat → Int32) × (Nat → Int32)) :=
  nm (y1 ||| y0) fun x_1 =>
  k40 v1 v2 x_1 o_level o_noRings o_noTones o_noFuel o_sets o_ringFar o_ringTone o_code o_cellAt o_courseAt o_paceAt o_turnsAt o_slowAt o_fuelAt o_ringAt
def f_X7_may_L40b (k40 : Int32 → Int32 → Int32 → Int32 → Int32 → Int32 → Int32 → (Nat → Int32) → (Nat → Int32) → (Nat → Int32) → (Nat → Int32) → (Nat → Int32) → (Nat → Int32) → (Nat → Int32) → (Nat → Int32) → (Nat → Int32) → (Nat → Int32) → (Nat → Int32) → Option (Int32 × Int32 × Int32 × Int32 × Int32 × (Nat → Int32) × (Nat → Int32) × (Nat → Int32) × (Nat → Int32) × (Nat → Int32) × (Nat → Int32) × (Nat → Int32) × (Nat → Int32))) (v1 : Int32) (v2 : Int32) (v3 : Int32) (o_level : Int32) (o_noRings : Int32) (o_noTones : Int32) (o_noFuel : Int32) (o_sets : Nat → Int32) (o_ringFar : Nat → Int32) (o_ringTone : Nat → Int32) (o_code : Nat → Int32) (o_cellAt : Nat → Int32) (o_courseAt : Nat → Int32) (o_paceAt : Nat → Int32) (o_turnsAt : Nat → Int32) (o_slowAt : Nat → Int32) (o_fuelAt : Nat → Int32) (o_ringAt : Nat → Int32) : Option (Int32 × Int32 × Int32 × Int32 × Int32 × (Nat → Int32) × (Nat → Int32) × (Nat → Int32) × (Nat → Int32) × (Nat → Int32) × (Nat → Int32) × (Nat → Int32) × (Nat → Int32)) :=
  bd10 (f_X7_goesOn o_level o_noRings o_noTones o_noFuel o_sets o_ringFar o_ringTone o_code o_cellAt o_courseAt o_paceAt o_turnsAt o_slowAt o_fuelAt o_ringAt) fun r_2 w_3 w_4 w_5 w_6 w_7 w_8 w_9 w_10 w_11 =>
  if r_2 = 0 then
    some (v3, w_3, o_noRings, o_noTones, o_noFuel, w_4, w_5, w_6, w_7, w_8, w_9, w_10, w_11)
  else
    chk (¬ (v1 < 0 ∨ 7 ≤ v1.toNatClampNeg)) <|
    if ((w_5 v1.toNatClampNeg) / 10) = v2 then
      chk (¬ (v1 < 0 ∨ 7 ≤ v1.toNatClampNeg)) <|
      f_X7_may_B76 k40 v1 v2 (1 <<< (((w_5 v1.toNatClampNeg) - (w_5 v1.toNatClampNeg) / 10 * 10) &&& 31)) v3 w_3 o_noRings o_noTones o_noFuel o_sets o_ringFar o_ringTone w_4 w_5 w_6 w_7 w_8 w_9 w_10 w_11
    else
      f_X7_may_B76 k40 v1 v2 0 v3 w_3 o_noRings o_noTones o_noFuel o_sets o_ringFar o_ringTone w_4 w_5 w_6 w_7 w_8 w_9 w_10 w_11
def f_X7_may_L40 : Nat → Int32 → Int32 → Int32 → Int32 → Int32 → Int32 → Int32 → (Nat → Int32) → (Nat → Int32) → (Nat → Int32) → (Nat → Int32) → (Nat → Int32) → (Nat → Int32) → (Nat → Int32) → (Nat → Int32) → (Nat → Int32) → (Nat → Int32) → (Nat → Int32) → Option (Int32 × Int32 × Int32 × Int32 × Int32 × (Nat → Int32) × (Nat → Int32) × (Nat → Int32) × (Nat → Int32) × (Nat → Int32) × (Nat → Int32) × (Nat → Int32) × (Nat → Int32))
  | 0 => fun _ _ _ _ _ _ _ _ _ _ _ _ _ _ _ _ _ _ => none
  | n + 1 => f_X7_may_L40b (f_X7_may_L40 n)
def f_X7_may (x1 : Int32) (x2 : Int32) (o_level : Int32) (o_noRings : Int32) (o_noTones : Int32) (o_noFuel : Int32) (o_sets : Nat → Int32) (o_ringFar : Nat → Int32) (o_ringTone : Nat → Int32) (o_code : Nat → Int32) (o_cellAt : Nat → Int32) (o_courseAt : Nat → Int32) (o_paceAt : Nat → Int32) (o_turnsAt : Nat → Int32) (o_slowAt : Nat → Int32) (o_fuelAt : Nat → Int32) (o_ringAt : Nat → Int32) : Option (Int32 × Int32 × Int32 × Int32 × Int32 × (Nat → Int32) × (Nat → Int32) × (Nat → Int32) × (Nat → Int32) × (Nat → Int32) × (Nat → Int32) × (Nat → Int32) × (Nat → Int32)) :=
  bd1 (f_X7_in x1.toInt64 0 ((o_sets 2).toInt64)) fun r_12 =>
  if r_12 = 0 then
    some ((-1), o_level, o_noRings, o_noTones, o_noFuel, o_code, o_cellAt, o_courseAt, o_paceAt, o_turnsAt, o_slowAt, o_fuelAt, o_ringAt)
  else
    bd1 (f_X7_in x2.toInt64 0 9) fun r_13 =>
    if r_13 = 0 then
      some ((-1), o_level, o_noRings, o_noTones, o_noFuel, o_code, o_cellAt, o_courseAt, o_paceAt, o_turnsAt, o_slowAt, o_fuelAt, o_ringAt)
    else
      bd3 (f_X7_asTold o_noRings o_noTones o_noFuel) fun w_14 w_15 w_16 =>
      bd7 (f_X7_begins o_level o_sets o_code o_cellAt o_turnsAt o_slowAt o_fuelAt o_ringAt) fun w_17 w_18 w_19 w_20 w_21 w_22 w_23 =>
      f_X7_may_L40 FU x1 x2 0 w_17 w_14 w_15 w_16 o_sets o_ringFar o_ringTone w_18 w_19 o_courseAt o_paceAt w_20 w_21 w_22 w_23
abbrev rm_X7_may : Room := { frames := 4, cells := 0, slots := 0, locals := 98 }
set_option maxRecDepth 100000 in
set_option maxHeartbeats 4000000 in
theorem c_X7_may (l : Launch) (dC : Nat → ClassId) (dI : Nat → Nat → Nat) (cyI cyJ cyO : ClassId) (sz : Nat) (h_o a_o_sets a_o_ringFar a_o_ringTone a_o_currents a_o_warmths a_o_depths a_o_tape a_o_readFar a_o_readTone a_o_readSea a_o_code a_o_cellAt a_o_courseAt a_o_paceAt a_o_turnsAt a_o_slowAt a_o_fuelAt a_o_ringAt a_o_pieceParts a_o_dragCell a_o_dragBy a_o_sums a_o_shares a_o_keptFar a_o_image a_o_lanes a_o_sizes a_o_items a_o_movedItems : Nat) (o_taped : Int32) (o_at : Int32) (o_wrong : Int32) (o_level : Int32) (o_noRings : Int32) (o_noTones : Int32) (o_noFuel : Int32) (o_pieces : Int32) (o_drags : Int32) (o_all : Int64) (o_noPieces : Int32) (o_noDrags : Int32) (o_kept : Int32) (o_sets : Nat → Int32) (o_ringFar : Nat → Int32) (o_ringTone : Nat → Int32) (o_code : Nat → Int32) (o_cellAt : Nat → Int32) (o_courseAt : Nat → Int32) (o_paceAt : Nat → Int32) (o_turnsAt : Nat → Int32) (o_slowAt : Nat → Int32) (o_fuelAt : Nat → Int32) (o_ringAt : Nat → Int32) (x1 : Int32) (x2 : Int32) (post : (Int32 × Int32 × Int32 × Int32 × Int32 × (Nat → Int32) × (Nat → Int32) × (Nat → Int32) × (Nat → Int32) × (Nat → Int32) × (Nat → Int32) × (Nat → Int32) × (Nat → Int32)) → Prop) (hf : okP (f_X7_may x1 x2 o_level o_noRings o_noTones o_noFuel o_sets o_ringFar o_ringTone o_code o_cellAt o_courseAt o_paceAt o_turnsAt o_slowAt o_fuelAt o_ringAt) post) : Ci l (dC, dI) (tyL cyI cyJ cyO) yX7_may wsX7_may rm_X7_may [.ref h_o, .int x1, .int x2] sz (W_X7_may cyI cyJ cyO h_o a_o_sets a_o_ringFar a_o_ringTone a_o_currents a_o_warmths a_o_depths a_o_tape a_o_readFar a_o_readTone a_o_readSea a_o_code a_o_cellAt a_o_courseAt a_o_paceAt a_o_turnsAt a_o_slowAt a_o_fuelAt a_o_ringAt a_o_pieceParts a_o_dragCell a_o_dragBy a_o_sums a_o_shares a_o_keptFar a_o_image a_o_lanes a_o_sizes a_o_items a_o_movedItems o_taped o_at o_wrong o_level o_noRings o_noTones o_noFuel o_pieces o_drags o_all o_noPieces o_noDrags o_kept o_sets o_ringFar o_ringTone o_code o_cellAt o_courseAt o_paceAt o_turnsAt o_slowAt o_fuelAt o_ringAt) zN (fun r u => post (r, u)) (fun u => (W_X7_may cyI cyJ cyO h_o a_o_sets a_o_ringFar a_o_ringTone a_o_currents a_o_warmths a_o_depths a_o_tape a_o_readFar a_o_readTone a_o_readSea a_o_code a_o_cellAt a_o_courseAt a_o_paceAt a_o_turnsAt a_o_slowAt a_o_fuelAt a_o_ringAt a_o_pieceParts a_o_dragCell a_o_dragBy a_o_sums a_o_shares a_o_keptFar a_o_image a_o_lanes a_o_sizes a_o_items a_o_movedItems o_taped o_at o_wrong u.1 u.2.1 u.2.2.1 u.2.2.2.1 o_pieces o_drags o_all o_noPieces o_noDrags o_kept o_sets o_ringFar o_ringTone u.2.2.2.2.1 u.2.2.2.2.2.1 u.2.2.2.2.2.2.1 u.2.2.2.2.2.2.2.1 u.2.2.2.2.2.2.2.2.1 u.2.2.2.2.2.2.2.2.2.1 u.2.2.2.2.2.2.2.2.2.2.1 u.2.2.2.2.2.2.2.2.2.2.2)) := by
  refine Met.ofW (cc := cX7_may) (maxL := 4) (ret := (some .int)) (by decide) rfl ?_
  intro p e s m args below meth c s₁ B hml hv
  obtain ⟨rfl, hsz, hP, hK, hD0, hZ⟩ := hv
  have hx := B.exec
  have hb := B.bytes
  have hr := B.returns
  have hts := atoms_spec (ws := wsX7_may) B.pre
  have hown : s.vm.findClass RX7 = some m.cls := findClass_of_methodNamed B.named
  have hlocks := B.notSynchronized
  subst hsz
  have hD := hD0.self (sz := s.heap.size)
  generalize hAe : va_A (W_X7_may cyI cyJ cyO h_o a_o_sets a_o_ringFar a_o_ringTone a_o_currents a_o_warmths a_o_depths a_o_tape a_o_readFar a_o_readTone a_o_readSea a_o_code a_o_cellAt a_o_courseAt a_o_paceAt a_o_turnsAt a_o_slowAt a_o_fuelAt a_o_ringAt a_o_pieceParts a_o_dragCell a_o_dragBy a_o_sums a_o_shares a_o_keptFar a_o_image a_o_lanes a_o_sizes a_o_items a_o_movedItems o_taped o_at o_wrong o_level o_noRings o_noTones o_noFuel o_pieces o_drags o_all o_noPieces o_noDrags o_kept o_sets o_ringFar o_ringTone o_code o_cellAt o_courseAt o_paceAt o_turnsAt o_slowAt o_fuelAt o_ringAt) s.heap.size = A at hD hZ ⊢
  have hA : ∀ q : Nat, s.heap.size ≤ q → A q := fun q h => by rw [← hAe]; exact Or.inr h
  clear hAe hD0
  have hS : va_S A s.heap s.heap [] := va_S.rf
  have hl := lv_entry ([.ref h_o, .int x1, .int x2]) (n := 4) (Nat.le_of_ble_eq_true rfl)
  rw [lg_entry_eq]
  generalize (lg_sl ([.ref h_o, .int x1, .int x2]) ++ List.replicate (4 - (lg_sl ([.ref h_o, .int x1, .int x2])).length) Slot.unset).toArray = ls at hl ⊢
  have hl : lv_has ls 4 [(0, .ref h_o), (1, .int x1), (2, .int x2)] := hl
  refine kW (fun Q hQ => ?_)
  have hq0 := hts _ (List.mem_cons_of_mem _ q_720)
  have hi7 : ∀ w ∈ u_ws RX7 TX7 42, w ∈ wsX7_may := fun w h => List.mem_cons_of_mem _ (inX7 w h)
  have hq2 := hts _ (List.mem_cons_of_mem _ q_706)
  have hq3 := hts _ (List.mem_cons_of_mem _ q_891)
  have hw := hf
  have w40 : ∀ (n : Nat), ∀ (v1 : Int32) (v2 : Int32) (v3 : Int32) (o_level : Int32) (o_noRings : Int32) (o_noTones : Int32) (o_noFuel : Int32) (o_code : Nat → Int32) (o_cellAt : Nat → Int32) (o_courseAt : Nat → Int32) (o_paceAt : Nat → Int32) (o_turnsAt : Nat → Int32) (o_slowAt : Nat → Int32) (o_fuelAt : Nat → Int32) (o_ringAt : Nat → Int32) (H : Heap) (locs : List Loc), va_P (dC, dI) vwCl (W_X7_may cyI cyJ cyO h_o a_o_sets a_o_ringFar a_o_ringTone a_o_currents a_o_warmths a_o_depths a_o_tape a_o_readFar a_o_readTone a_o_readSea a_o_code a_o_cellAt a_o_courseAt a_o_paceAt a_o_turnsAt a_o_slowAt a_o_fuelAt a_o_ringAt a_o_pieceParts a_o_dragCell a_o_dragBy a_o_sums a_o_shares a_o_keptFar a_o_image a_o_lanes a_o_sizes a_o_items a_o_movedItems o_taped o_at o_wrong o_level o_noRings o_noTones o_noFuel o_pieces o_drags o_all o_noPieces o_noDrags o_kept o_sets o_ringFar o_ringTone o_code o_cellAt o_courseAt o_paceAt o_turnsAt o_slowAt o_fuelAt o_ringAt) H → va_D A (W_X7_may cyI cyJ cyO h_o a_o_sets a_o_ringFar a_o_ringTone a_o_currents a_o_warmths a_o_depths a_o_tape a_o_readFar a_o_readTone a_o_readSea a_o_code a_o_cellAt a_o_courseAt a_o_paceAt a_o_turnsAt a_o_slowAt a_o_fuelAt a_o_ringAt a_o_pieceParts a_o_dragCell a_o_dragBy a_o_sums a_o_shares a_o_keptFar a_o_image a_o_lanes a_o_sizes a_o_items a_o_movedItems o_taped o_at o_wrong o_level o_noRings o_noTones o_noFuel o_pieces o_drags o_all o_noPieces o_noDrags o_kept o_sets o_ringFar o_ringTone o_code o_cellAt o_courseAt o_paceAt o_turnsAt o_slowAt o_fuelAt o_ringAt) → va_S A s.heap H locs → ∀ (ls : Array Slot), lv_has ls 4 [(0, .ref h_o), (1, .int v1), (2, .int v2), (3, .int v3)] → okP (f_X7_may_L40 n v1 v2 v3 o_level o_noRings o_noTones o_noFuel o_sets o_ringFar o_ringTone o_code o_cellAt o_courseAt o_paceAt o_turnsAt o_slowAt o_fuelAt o_ringAt) post → W p l e (headSpec wsX7_may rm_X7_may).room s m ([.ref h_o, .int x1, .int x2] : List Value).toArray below meth c H locs 0 0 Q (F0 m 40 ls []) := by
    intro n
    induction n with
    | zero =>
      intro v1 v2 v3 o_level o_noRings o_noTones o_noFuel o_code o_cellAt o_courseAt o_paceAt o_turnsAt o_slowAt o_fuelAt o_ringAt H locs hP hD hS ls hl hw
      exact (ok0 hw).elim
    | succ n40 ih40 =>
      have w76 : ∀ (v1 : Int32) (v2 : Int32) (y0 : Int32) (y1 : Int32) (o_level : Int32) (o_noRings : Int32) (o_noTones : Int32) (o_noFuel : Int32) (o_code : Nat → Int32) (o_cellAt : Nat → Int32) (o_courseAt : Nat → Int32) (o_paceAt : Nat → Int32) (o_turnsAt : Nat → Int32) (o_slowAt : Nat → Int32) (o_fuelAt : Nat → Int32) (o_ringAt : Nat → Int32) (H : Heap) (locs : List Loc), va_P (dC, dI) vwCl (W_X7_may cyI cyJ cyO h_o a_o_sets a_o_ringFar a_o_ringTone a_o_currents a_o_warmths a_o_depths a_o_tape a_o_readFar a_o_readTone a_o_readSea a_o_code a_o_cellAt a_o_courseAt a_o_paceAt a_o_turnsAt a_o_slowAt a_o_fuelAt a_o_ringAt a_o_pieceParts a_o_dragCell a_o_dragBy a_o_sums a_o_shares a_o_keptFar a_o_image a_o_lanes a_o_sizes a_o_items a_o_movedItems o_taped o_at o_wrong o_level o_noRings o_noTones o_noFuel o_pieces o_drags o_all o_noPieces o_noDrags o_kept o_sets o_ringFar o_ringTone o_code o_cellAt o_courseAt o_paceAt o_turnsAt o_slowAt o_fuelAt o_ringAt) H → va_D A (W_X7_may cyI cyJ cyO h_o a_o_sets a_o_ringFar a_o_ringTone a_o_currents a_o_warmths a_o_depths a_o_tape a_o_readFar a_o_readTone a_o_readSea a_o_code a_o_cellAt a_o_courseAt a_o_paceAt a_o_turnsAt a_o_slowAt a_o_fuelAt a_o_ringAt a_o_pieceParts a_o_dragCell a_o_dragBy a_o_sums a_o_shares a_o_keptFar a_o_image a_o_lanes a_o_sizes a_o_items a_o_movedItems o_taped o_at o_wrong o_level o_noRings o_noTones o_noFuel o_pieces o_drags o_all o_noPieces o_noDrags o_kept o_sets o_ringFar o_ringTone o_code o_cellAt o_courseAt o_paceAt o_turnsAt o_slowAt o_fuelAt o_ringAt) → va_S A s.heap H locs → ∀ (ls : Array Slot), lv_has ls 4 [(0, .ref h_o), (1, .int v1), (2, .int v2)] → okP (f_X7_may_B76 (f_X7_may_L40 n40) v1 v2 y0 y1 o_level o_noRings o_noTones o_noFuel o_sets o_ringFar o_ringTone o_code o_cellAt o_courseAt o_paceAt o_turnsAt o_slowAt o_fuelAt o_ringAt) post → W p l e (headSpec wsX7_may rm_X7_may).room s m ([.ref h_o, .int x1, .int x2] : List Value).toArray below meth c H locs 0 0 Q (F0 m 76 ls [.int y0, .int y1]) := by
        intro v1 v2 y0 y1 o_level o_noRings o_noTones o_noFuel o_code o_cellAt o_courseAt o_paceAt o_turnsAt o_slowAt o_fuelAt o_ringAt H locs hP hD hS ls hl hw
        unfold f_X7_may_B76 at hw
        refine lv_ior hx hb dX7_may_76 ?_
        refine lv_topi (fun x_1 ex_1 => ?_)
        replace hw := okN ex_1 hw
        clear ex_1
        refine lv_istore_n (lv' := [(3, .int x_1), (0, .ref h_o), (1, .int v1), (2, .int v2)]) hx hb dX7_may_77 rfl hl (by decide) rfl (fun ls hl => ?_)
        refine lv_goto (tgt := 40) hx hb dX7_may_78 (by decide) ?_
        exact ih40 v1 v2 x_1 o_level o_noRings o_noTones o_noFuel o_code o_cellAt o_courseAt o_paceAt o_turnsAt o_slowAt o_fuelAt o_ringAt _ _ hP hD hS _ (lv_sub hl [1, 2, 3, 0] rfl) hw
      intro v1 v2 v3 o_level o_noRings o_noTones o_noFuel o_code o_cellAt o_courseAt o_paceAt o_turnsAt o_slowAt o_fuelAt o_ringAt H locs hP hD hS ls hl hw
      replace hw : okP (f_X7_may_L40b (f_X7_may_L40 n40) v1 v2 v3 o_level o_noRings o_noTones o_noFuel o_sets o_ringFar o_ringTone o_code o_cellAt o_courseAt o_paceAt o_turnsAt o_slowAt o_fuelAt o_ringAt) post := hw
      unfold f_X7_may_L40b at hw
      refine lv_aload_n hx hb dX7_may_40 rfl (lv_at hl 0 rfl) ?_
      have hPc := hP.sub (ws' := (W_X7_goesOn cyI cyJ cyO h_o a_o_sets a_o_ringFar a_o_ringTone a_o_currents a_o_warmths a_o_depths a_o_tape a_o_readFar a_o_readTone a_o_readSea a_o_code a_o_cellAt a_o_courseAt a_o_paceAt a_o_turnsAt a_o_slowAt a_o_fuelAt a_o_ringAt a_o_pieceParts a_o_dragCell a_o_dragBy a_o_sums a_o_shares a_o_keptFar a_o_image a_o_lanes a_o_sizes a_o_items a_o_movedItems o_taped o_at o_wrong o_level o_noRings o_noTones o_noFuel o_pieces o_drags o_all o_noPieces o_noDrags o_kept o_sets o_ringFar o_ringTone o_code o_cellAt o_courseAt o_paceAt o_turnsAt o_slowAt o_fuelAt o_ringAt)) [0, 1, 2, 3, 4, 5, 6, 7, 8, 9, 10, 11] rfl
      have hDc := hD.sub (ws' := (W_X7_goesOn cyI cyJ cyO h_o a_o_sets a_o_ringFar a_o_ringTone a_o_currents a_o_warmths a_o_depths a_o_tape a_o_readFar a_o_readTone a_o_readSea a_o_code a_o_cellAt a_o_courseAt a_o_paceAt a_o_turnsAt a_o_slowAt a_o_fuelAt a_o_ringAt a_o_pieceParts a_o_dragCell a_o_dragBy a_o_sums a_o_shares a_o_keptFar a_o_image a_o_lanes a_o_sizes a_o_items a_o_movedItems o_taped o_at o_wrong o_level o_noRings o_noTones o_noFuel o_pieces o_drags o_all o_noPieces o_noDrags o_kept o_sets o_ringFar o_ringTone o_code o_cellAt o_courseAt o_paceAt o_turnsAt o_slowAt o_fuelAt o_ringAt)) [0, 1, 2, 3, 4, 5, 6, 7, 8, 9, 10, 11] (by decide +kernel) rfl
      have hFc := va_free (wc := (W_X7_goesOn cyI cyJ cyO h_o a_o_sets a_o_ringFar a_o_ringTone a_o_currents a_o_warmths a_o_depths a_o_tape a_o_readFar a_o_readTone a_o_readSea a_o_code a_o_cellAt a_o_courseAt a_o_paceAt a_o_turnsAt a_o_slowAt a_o_fuelAt a_o_ringAt a_o_pieceParts a_o_dragCell a_o_dragBy a_o_sums a_o_shares a_o_keptFar a_o_image a_o_lanes a_o_sizes a_o_items a_o_movedItems o_taped o_at o_wrong o_level o_noRings o_noTones o_noFuel o_pieces o_drags o_all o_noPieces o_noDrags o_kept o_sets o_ringFar o_ringTone o_code o_cellAt o_courseAt o_paceAt o_turnsAt o_slowAt o_fuelAt o_ringAt)) hD hS hA [0, 1, 2, 3, 4, 5, 6, 7, 8, 9, 10, 11] rfl
      refine kc_i (wr := []) (va_runV (As := []) (rest := []) ⟨hx, hb, hml, hown, hts⟩ (c_X7_goesOn l dC dI cyI cyJ cyO H.size h_o a_o_sets a_o_ringFar a_o_ringTone a_o_currents a_o_warmths a_o_depths a_o_tape a_o_readFar a_o_readTone a_o_readSea a_o_code a_o_cellAt a_o_courseAt a_o_paceAt a_o_turnsAt a_o_slowAt a_o_fuelAt a_o_ringAt a_o_pieceParts a_o_dragCell a_o_dragBy a_o_sums a_o_shares a_o_keptFar a_o_image a_o_lanes a_o_sizes a_o_items a_o_movedItems o_taped o_at o_wrong o_level o_noRings o_noTones o_noFuel o_pieces o_drags o_all o_noPieces o_noDrags o_kept o_sets o_ringFar o_ringTone o_code o_cellAt o_courseAt o_paceAt o_turnsAt o_slowAt o_fuelAt o_ringAt _ (okb10 hw)) (cwV 0 hts (gdV (fun w h => List.mem_cons_of_mem _ h) q_904 q_906 qs_30 q_8 q_907) rfl rfl rfl (by decide +kernel) ⟨Nat.le_of_ble_eq_true rfl, Nat.le_of_ble_eq_true rfl⟩) ⟨(kpre zN_ok hK hPc hDc trivial hS hFc).1, va_recv hK hP (ci := 7) (q0 := 0) rfl rfl, (kpre zN_ok hK hPc hDc trivial hS hFc).2⟩ rfl rfl hl.1 rfl (lv_room (Nat.le_of_ble_eq_true rfl)) dX7_may_41 ⟨Nat.le_of_ble_eq_true rfl, Nat.le_of_ble_eq_true rfl⟩) hP hD hS hFc [0, 1, 2, 3, 4, 5, 6, 7, 8, 9, 10, 11] [] rfl rfl (by decide +kernel) (by decide +kernel) (fun r_2 u H locs hw hP hD hS => ?_)
      obtain ⟨w_3, w_4, w_5, w_6, w_7, w_8, w_9, w_10, w_11⟩ := u
      try dsimp only at hw
      have hP : va_P (dC, dI) vwCl (W_X7_may cyI cyJ cyO h_o a_o_sets a_o_ringFar a_o_ringTone a_o_currents a_o_warmths a_o_depths a_o_tape a_o_readFar a_o_readTone a_o_readSea a_o_code a_o_cellAt a_o_courseAt a_o_paceAt a_o_turnsAt a_o_slowAt a_o_fuelAt a_o_ringAt a_o_pieceParts a_o_dragCell a_o_dragBy a_o_sums a_o_shares a_o_keptFar a_o_image a_o_lanes a_o_sizes a_o_items a_o_movedItems o_taped o_at o_wrong w_3 o_noRings o_noTones o_noFuel o_pieces o_drags o_all o_noPieces o_noDrags o_kept o_sets o_ringFar o_ringTone w_4 w_5 w_6 w_7 w_8 w_9 w_10 w_11) H := hP.sub [0, 1, 2, 3, 4, 5, 6, 7, 8, 9, 10, 11] rfl
      have hD : va_D A (W_X7_may cyI cyJ cyO h_o a_o_sets a_o_ringFar a_o_ringTone a_o_currents a_o_warmths a_o_depths a_o_tape a_o_readFar a_o_readTone a_o_readSea a_o_code a_o_cellAt a_o_courseAt a_o_paceAt a_o_turnsAt a_o_slowAt a_o_fuelAt a_o_ringAt a_o_pieceParts a_o_dragCell a_o_dragBy a_o_sums a_o_shares a_o_keptFar a_o_image a_o_lanes a_o_sizes a_o_items a_o_movedItems o_taped o_at o_wrong w_3 o_noRings o_noTones o_noFuel o_pieces o_drags o_all o_noPieces o_noDrags o_kept o_sets o_ringFar o_ringTone w_4 w_5 w_6 w_7 w_8 w_9 w_10 w_11) := hD.sub [0, 1, 2, 3, 4, 5, 6, 7, 8, 9, 10, 11] (by decide +kernel) rfl
      clear hPc hDc hFc
      refine lv_if_eq (tgt := 81) hx hb dX7_may_44 (by decide) (fun c_12 => ?_) (fun c_12 => ?_)
      · replace hw := okT hw c_12
        clear c_12
        refine lv_iload_n hx hb dX7_may_81 rfl (lv_at hl 3 rfl) ?_
        rw [hQ]
        exact W.iret (v := v3) hx hb hr (fun t ht hW => ⟨⟨v3, (w_3, o_noRings, o_noTones, o_noFuel, w_4, w_5, w_6, w_7, w_8, w_9, w_10, w_11), rfl, okS hw, by rw [ht]; exact hP, va_K.moved hW.alike hK, hD⟩, hS.F ht⟩) hS.2.2 dX7_may_82
      · replace hw := okF hw c_12
        clear c_12
        refine lv_iload_n hx hb dX7_may_47 rfl (lv_at hl 3 rfl) ?_
        refine lv_aload_n hx hb dX7_may_48 rfl (lv_at hl 0 rfl) ?_
        refine va_get (D := (dC, dI)) (ci := 7) (v := .ref a_o_cellAt) (C := RX7) (T := TX7) (N := 42) hx hb hts hi7 hown hK hP 0 rfl rfl 14 (by decide) hq0 (fun _ h9 => h9) rfl dX7_may_49 ?_
        refine lv_iload_n hx hb dX7_may_52 rfl (lv_at hl 1 rfl) ?_
        obtain ⟨h_13, hw⟩ := okC hw
        refine va_iald (i := v1) hx hb hK hP 5 0 rfl rfl h_13 dX7_may_53 ?_
        refine lv_bipush (v := 10) hx hb dX7_may_54 (by decide) ?_
        refine lv_idiv hx hb dX7_may_56 (by decide) ?_
        refine lv_iload_n hx hb dX7_may_57 rfl (lv_at hl 2 rfl) ?_
        refine lv_icmp_ne (tgt := 75) hx hb dX7_may_58 (by decide) (fun c_14 => ?_) (fun c_14 => ?_)
        · replace hw := okF hw c_14
          clear c_14
          refine lv_iconst (v := 0) hx hb dX7_may_75 (by decide) ?_
          exact w76 v1 v2 0 v3 w_3 o_noRings o_noTones o_noFuel w_4 w_5 w_6 w_7 w_8 w_9 w_10 w_11 _ _ hP hD hS _ (lv_sub hl [0, 1, 2] rfl) hw
        · replace hw := okT hw c_14
          clear c_14
          refine lv_iconst (v := 1) hx hb dX7_may_61 (by decide) ?_
          refine lv_aload_n hx hb dX7_may_62 rfl (lv_at hl 0 rfl) ?_
          refine va_get (D := (dC, dI)) (ci := 7) (v := .ref a_o_cellAt) (C := RX7) (T := TX7) (N := 42) hx hb hts hi7 hown hK hP 0 rfl rfl 14 (by decide) hq0 (fun _ h9 => h9) rfl dX7_may_63 ?_
          refine lv_iload_n hx hb dX7_may_66 rfl (lv_at hl 1 rfl) ?_
          obtain ⟨h_15, hw⟩ := okC hw
          refine va_iald (i := v1) hx hb hK hP 5 0 rfl rfl h_15 dX7_may_67 ?_
          refine lv_bipush (v := 10) hx hb dX7_may_68 (by decide) ?_
          refine lv_irem hx hb dX7_may_70 (by decide) ?_
          refine lv_ishl hx hb dX7_may_71 ?_
          refine lv_goto (tgt := 76) hx hb dX7_may_72 (by decide) ?_
          exact w76 v1 v2 (1 <<< (((w_5 v1.toNatClampNeg) - (w_5 v1.toNatClampNeg) / 10 * 10) &&& 31)) v3 w_3 o_noRings o_noTones o_noFuel w_4 w_5 w_6 w_7 w_8 w_9 w_10 w_11 _ _ hP hD hS _ (lv_sub hl [0, 1, 2] rfl) hw
  unfold f_X7_may at hw
  have hP : va_P (dC, dI) vwCl (W_X7_may cyI cyJ cyO h_o a_o_sets a_o_ringFar a_o_ringTone a_o_currents a_o_warmths a_o_depths a_o_tape a_o_readFar a_o_readTone a_o_readSea a_o_code a_o_cellAt a_o_courseAt a_o_paceAt a_o_turnsAt a_o_slowAt a_o_fuelAt a_o_ringAt a_o_pieceParts a_o_dragCell a_o_dragBy a_o_sums a_o_shares a_o_keptFar a_o_image a_o_lanes a_o_sizes a_o_items a_o_movedItems o_taped o_at o_wrong o_level o_noRings o_noTones o_noFuel o_pieces o_drags o_all o_noPieces o_noDrags o_kept o_sets o_ringFar o_ringTone o_code o_cellAt o_courseAt o_paceAt o_turnsAt o_slowAt o_fuelAt o_ringAt) s.heap := hP
  obtain ⟨H, hH⟩ : ∃ H, H = s.heap := ⟨_, rfl⟩
  obtain ⟨locs, hlo⟩ : ∃ x : List Loc, x = [] := ⟨_, rfl⟩
  have hP : va_P (dC, dI) vwCl (W_X7_may cyI cyJ cyO h_o a_o_sets a_o_ringFar a_o_ringTone a_o_currents a_o_warmths a_o_depths a_o_tape a_o_readFar a_o_readTone a_o_readSea a_o_code a_o_cellAt a_o_courseAt a_o_paceAt a_o_turnsAt a_o_slowAt a_o_fuelAt a_o_ringAt a_o_pieceParts a_o_dragCell a_o_dragBy a_o_sums a_o_shares a_o_keptFar a_o_image a_o_lanes a_o_sizes a_o_items a_o_movedItems o_taped o_at o_wrong o_level o_noRings o_noTones o_noFuel o_pieces o_drags o_all o_noPieces o_noDrags o_kept o_sets o_ringFar o_ringTone o_code o_cellAt o_courseAt o_paceAt o_turnsAt o_slowAt o_fuelAt o_ringAt) H := by rw [hH]; exact hP
  have hS : va_S A s.heap H locs := by rw [hH, hlo]; exact hS
  refine kH hH hlo ?_
  clear hH hlo
  refine lv_iload_n hx hb dX7_may_0 rfl (lv_at hl 1 rfl) ?_
  refine lv_i2l (v := x1.toInt64) hx hb dX7_may_1 rfl ?_
  refine lv_lconst (v := 0) hx hb dX7_may_2 (by decide) ?_
  refine lv_aload_n hx hb dX7_may_3 rfl (lv_at hl 0 rfl) ?_
  refine va_get (D := (dC, dI)) (ci := 7) (v := .ref a_o_sets) (C := RX7) (T := TX7) (N := 42) hx hb hts hi7 hown hK hP 0 rfl rfl 0 (by decide) hq2 (fun _ h9 => h9) rfl dX7_may_4 ?_
  refine lv_iconst (v := 2) hx hb dX7_may_7 (by decide) ?_
  refine va_iald (i := 2) hx hb hK hP 1 0 rfl rfl (show ¬ _ by decide) dX7_may_8 ?_
  refine lv_i2l (v := (o_sets 2).toInt64) hx hb dX7_may_9 rfl ?_
  have hFc := va_free (wc := []) hD hS hA [] rfl
  refine kp_i (va_runS (As := [.long x1.toInt64, .long 0, .long ((o_sets 2).toInt64)]) (rest := []) ⟨hx, hb, hml, hown, hts⟩ (c_X7_in l dC dI cyI cyJ cyO H.size x1.toInt64 0 ((o_sets 2).toInt64) _ (okb1 hw)) (va_cwS 3 hts (gdS (fun w h => List.mem_cons_of_mem _ h) q_838 q_839 q_8 q_840) rfl rfl rfl (by decide +kernel) ⟨Nat.le_of_ble_eq_true rfl, Nat.le_of_ble_eq_true rfl⟩) (kpre zN_ok hK va_P0 va_D0 trivial hS hFc) rfl rfl hl.1 rfl (lv_room (Nat.le_of_ble_eq_true rfl)) dX7_may_10 ⟨Nat.le_of_ble_eq_true rfl, Nat.le_of_ble_eq_true rfl⟩) hP hD hS hFc (fun r_16 H locs hw hP hS => ?_)
  try dsimp only at hw
  clear hFc
  refine lv_if_eq (tgt := 28) hx hb dX7_may_13 (by decide) (fun c_17 => ?_) (fun c_17 => ?_)
  · replace hw := okT hw c_17
    clear c_17
    refine lv_iconst (v := (-1)) hx hb dX7_may_28 (by decide) ?_
    rw [hQ]
    exact W.iret (v := (-1)) hx hb hr (fun t ht hW => ⟨⟨(-1), (o_level, o_noRings, o_noTones, o_noFuel, o_code, o_cellAt, o_courseAt, o_paceAt, o_turnsAt, o_slowAt, o_fuelAt, o_ringAt), rfl, okS hw, by rw [ht]; exact hP, va_K.moved hW.alike hK, hD⟩, hS.F ht⟩) hS.2.2 dX7_may_29
  · replace hw := okF hw c_17
    clear c_17
    refine lv_iload_n hx hb dX7_may_16 rfl (lv_at hl 2 rfl) ?_
    refine lv_i2l (v := x2.toInt64) hx hb dX7_may_17 rfl ?_
    refine lv_lconst (v := 0) hx hb dX7_may_18 (by decide) ?_
    refine lv_ldc2 (v := 9) hx hb hown hq3 dX7_may_19 ?_
    have hFc := va_free (wc := []) hD hS hA [] rfl
    refine kp_i (va_runS (As := [.long x2.toInt64, .long 0, .long 9]) (rest := []) ⟨hx, hb, hml, hown, hts⟩ (c_X7_in l dC dI cyI cyJ cyO H.size x2.toInt64 0 9 _ (okb1 hw)) (va_cwS 3 hts (gdS (fun w h => List.mem_cons_of_mem _ h) q_838 q_839 q_8 q_840) rfl rfl rfl (by decide +kernel) ⟨Nat.le_of_ble_eq_true rfl, Nat.le_of_ble_eq_true rfl⟩) (kpre zN_ok hK va_P0 va_D0 trivial hS hFc) rfl rfl hl.1 rfl (lv_room (Nat.le_of_ble_eq_true rfl)) dX7_may_22 ⟨Nat.le_of_ble_eq_true rfl, Nat.le_of_ble_eq_true rfl⟩) hP hD hS hFc (fun r_18 H locs hw hP hS => ?_)
    try dsimp only at hw
    clear hFc
    refine lv_if_ne (tgt := 30) hx hb dX7_may_25 (by decide) (fun c_19 => ?_) (fun c_19 => ?_)
    · replace hw := okF hw c_19
      clear c_19
      refine lv_aload_n hx hb dX7_may_30 rfl (lv_at hl 0 rfl) ?_
      have hPc := hP.sub (ws' := (W_X7_asTold cyI cyJ cyO h_o a_o_sets a_o_ringFar a_o_ringTone a_o_currents a_o_warmths a_o_depths a_o_tape a_o_readFar a_o_readTone a_o_readSea a_o_code a_o_cellAt a_o_courseAt a_o_paceAt a_o_turnsAt a_o_slowAt a_o_fuelAt a_o_ringAt a_o_pieceParts a_o_dragCell a_o_dragBy a_o_sums a_o_shares a_o_keptFar a_o_image a_o_lanes a_o_sizes a_o_items a_o_movedItems o_taped o_at o_wrong o_level o_noRings o_noTones o_noFuel o_pieces o_drags o_all o_noPieces o_noDrags o_kept)) [0] rfl
      have hDc := hD.sub (ws' := (W_X7_asTold cyI cyJ cyO h_o a_o_sets a_o_ringFar a_o_ringTone a_o_currents a_o_warmths a_o_depths a_o_tape a_o_readFar a_o_readTone a_o_readSea a_o_code a_o_cellAt a_o_courseAt a_o_paceAt a_o_turnsAt a_o_slowAt a_o_fuelAt a_o_ringAt a_o_pieceParts a_o_dragCell a_o_dragBy a_o_sums a_o_shares a_o_keptFar a_o_image a_o_lanes a_o_sizes a_o_items a_o_movedItems o_taped o_at o_wrong o_level o_noRings o_noTones o_noFuel o_pieces o_drags o_all o_noPieces o_noDrags o_kept)) [0] (by decide +kernel) rfl
      have hFc := va_free (wc := (W_X7_asTold cyI cyJ cyO h_o a_o_sets a_o_ringFar a_o_ringTone a_o_currents a_o_warmths a_o_depths a_o_tape a_o_readFar a_o_readTone a_o_readSea a_o_code a_o_cellAt a_o_courseAt a_o_paceAt a_o_turnsAt a_o_slowAt a_o_fuelAt a_o_ringAt a_o_pieceParts a_o_dragCell a_o_dragBy a_o_sums a_o_shares a_o_keptFar a_o_image a_o_lanes a_o_sizes a_o_items a_o_movedItems o_taped o_at o_wrong o_level o_noRings o_noTones o_noFuel o_pieces o_drags o_all o_noPieces o_noDrags o_kept)) hD hS hA [0] rfl
      refine kc_v (wr := [(a_o_sets, .inl (cyI, 8, .inl o_sets)), (a_o_ringFar, .inl (cyI, 7, .inl o_ringFar)), (a_o_ringTone, .inl (cyI, 7, .inl o_ringTone)), (a_o_code, .inl (cyI, 7, .inl o_code)), (a_o_cellAt, .inl (cyI, 7, .inl o_cellAt)), (a_o_courseAt, .inl (cyI, 7, .inl o_courseAt)), (a_o_paceAt, .inl (cyI, 7, .inl o_paceAt)), (a_o_turnsAt, .inl (cyI, 7, .inl o_turnsAt)), (a_o_slowAt, .inl (cyI, 7, .inl o_slowAt)), (a_o_fuelAt, .inl (cyI, 7, .inl o_fuelAt)), (a_o_ringAt, .inl (cyI, 7, .inl o_ringAt))]) (va_runV (As := []) (rest := []) ⟨hx, hb, hml, hown, hts⟩ (c_X7_asTold l dC dI cyI cyJ cyO H.size h_o a_o_sets a_o_ringFar a_o_ringTone a_o_currents a_o_warmths a_o_depths a_o_tape a_o_readFar a_o_readTone a_o_readSea a_o_code a_o_cellAt a_o_courseAt a_o_paceAt a_o_turnsAt a_o_slowAt a_o_fuelAt a_o_ringAt a_o_pieceParts a_o_dragCell a_o_dragBy a_o_sums a_o_shares a_o_keptFar a_o_image a_o_lanes a_o_sizes a_o_items a_o_movedItems o_taped o_at o_wrong o_level o_noRings o_noTones o_noFuel o_pieces o_drags o_all o_noPieces o_noDrags o_kept _ (okb3 hw)) (cwV 0 hts (gdV (fun w h => List.mem_cons_of_mem _ h) q_896 q_898 qs_28 q_8 q_899) rfl rfl rfl (by decide +kernel) ⟨Nat.le_of_ble_eq_true rfl, Nat.le_of_ble_eq_true rfl⟩) ⟨(kpre zN_ok hK hPc hDc trivial hS hFc).1, va_recv hK hP (ci := 7) (q0 := 0) rfl rfl, (kpre zN_ok hK hPc hDc trivial hS hFc).2⟩ rfl rfl hl.1 rfl (lv_room (Nat.le_of_ble_eq_true rfl)) dX7_may_31 ⟨Nat.le_of_ble_eq_true rfl, Nat.le_of_ble_eq_true rfl⟩) hP hD hS hFc [0] [1, 2, 3, 4, 5, 6, 7, 8, 9, 10, 11] rfl rfl (by decide +kernel) (by decide +kernel) (fun u H locs hw hP hD hS => ?_)
      obtain ⟨w_20, w_21, w_22⟩ := u
      try dsimp only at hw
      have hP : va_P (dC, dI) vwCl (W_X7_may cyI cyJ cyO h_o a_o_sets a_o_ringFar a_o_ringTone a_o_currents a_o_warmths a_o_depths a_o_tape a_o_readFar a_o_readTone a_o_readSea a_o_code a_o_cellAt a_o_courseAt a_o_paceAt a_o_turnsAt a_o_slowAt a_o_fuelAt a_o_ringAt a_o_pieceParts a_o_dragCell a_o_dragBy a_o_sums a_o_shares a_o_keptFar a_o_image a_o_lanes a_o_sizes a_o_items a_o_movedItems o_taped o_at o_wrong o_level w_20 w_21 w_22 o_pieces o_drags o_all o_noPieces o_noDrags o_kept o_sets o_ringFar o_ringTone o_code o_cellAt o_courseAt o_paceAt o_turnsAt o_slowAt o_fuelAt o_ringAt) H := hP.sub [11, 0, 1, 2, 3, 4, 5, 6, 7, 8, 9, 10] rfl
      have hD : va_D A (W_X7_may cyI cyJ cyO h_o a_o_sets a_o_ringFar a_o_ringTone a_o_currents a_o_warmths a_o_depths a_o_tape a_o_readFar a_o_readTone a_o_readSea a_o_code a_o_cellAt a_o_courseAt a_o_paceAt a_o_turnsAt a_o_slowAt a_o_fuelAt a_o_ringAt a_o_pieceParts a_o_dragCell a_o_dragBy a_o_sums a_o_shares a_o_keptFar a_o_image a_o_lanes a_o_sizes a_o_items a_o_movedItems o_taped o_at o_wrong o_level w_20 w_21 w_22 o_pieces o_drags o_all o_noPieces o_noDrags o_kept o_sets o_ringFar o_ringTone o_code o_cellAt o_courseAt o_paceAt o_turnsAt o_slowAt o_fuelAt o_ringAt) := hD.sub [11, 0, 1, 2, 3, 4, 5, 6, 7, 8, 9, 10] (by decide +kernel) rfl
      clear hPc hDc hFc
      refine lv_aload_n hx hb dX7_may_34 rfl (lv_at hl 0 rfl) ?_
      have hPc := hP.sub (ws' := (W_X7_begins cyI cyJ cyO h_o a_o_sets a_o_ringFar a_o_ringTone a_o_currents a_o_warmths a_o_depths a_o_tape a_o_readFar a_o_readTone a_o_readSea a_o_code a_o_cellAt a_o_courseAt a_o_paceAt a_o_turnsAt a_o_slowAt a_o_fuelAt a_o_ringAt a_o_pieceParts a_o_dragCell a_o_dragBy a_o_sums a_o_shares a_o_keptFar a_o_image a_o_lanes a_o_sizes a_o_items a_o_movedItems o_taped o_at o_wrong o_level w_20 w_21 w_22 o_pieces o_drags o_all o_noPieces o_noDrags o_kept o_sets o_code o_cellAt o_turnsAt o_slowAt o_fuelAt o_ringAt)) [0, 1, 4, 5, 8, 9, 10, 11] rfl
      have hDc := hD.sub (ws' := (W_X7_begins cyI cyJ cyO h_o a_o_sets a_o_ringFar a_o_ringTone a_o_currents a_o_warmths a_o_depths a_o_tape a_o_readFar a_o_readTone a_o_readSea a_o_code a_o_cellAt a_o_courseAt a_o_paceAt a_o_turnsAt a_o_slowAt a_o_fuelAt a_o_ringAt a_o_pieceParts a_o_dragCell a_o_dragBy a_o_sums a_o_shares a_o_keptFar a_o_image a_o_lanes a_o_sizes a_o_items a_o_movedItems o_taped o_at o_wrong o_level w_20 w_21 w_22 o_pieces o_drags o_all o_noPieces o_noDrags o_kept o_sets o_code o_cellAt o_turnsAt o_slowAt o_fuelAt o_ringAt)) [0, 1, 4, 5, 8, 9, 10, 11] (by decide +kernel) rfl
      have hFc := va_free (wc := (W_X7_begins cyI cyJ cyO h_o a_o_sets a_o_ringFar a_o_ringTone a_o_currents a_o_warmths a_o_depths a_o_tape a_o_readFar a_o_readTone a_o_readSea a_o_code a_o_cellAt a_o_courseAt a_o_paceAt a_o_turnsAt a_o_slowAt a_o_fuelAt a_o_ringAt a_o_pieceParts a_o_dragCell a_o_dragBy a_o_sums a_o_shares a_o_keptFar a_o_image a_o_lanes a_o_sizes a_o_items a_o_movedItems o_taped o_at o_wrong o_level w_20 w_21 w_22 o_pieces o_drags o_all o_noPieces o_noDrags o_kept o_sets o_code o_cellAt o_turnsAt o_slowAt o_fuelAt o_ringAt)) hD hS hA [0, 1, 4, 5, 8, 9, 10, 11] rfl
      refine kc_v (wr := [(a_o_ringFar, .inl (cyI, 7, .inl o_ringFar)), (a_o_ringTone, .inl (cyI, 7, .inl o_ringTone)), (a_o_courseAt, .inl (cyI, 7, .inl o_courseAt)), (a_o_paceAt, .inl (cyI, 7, .inl o_paceAt))]) (va_runV (As := []) (rest := []) ⟨hx, hb, hml, hown, hts⟩ (c_X7_begins l dC dI cyI cyJ cyO H.size h_o a_o_sets a_o_ringFar a_o_ringTone a_o_currents a_o_warmths a_o_depths a_o_tape a_o_readFar a_o_readTone a_o_readSea a_o_code a_o_cellAt a_o_courseAt a_o_paceAt a_o_turnsAt a_o_slowAt a_o_fuelAt a_o_ringAt a_o_pieceParts a_o_dragCell a_o_dragBy a_o_sums a_o_shares a_o_keptFar a_o_image a_o_lanes a_o_sizes a_o_items a_o_movedItems o_taped o_at o_wrong o_level w_20 w_21 w_22 o_pieces o_drags o_all o_noPieces o_noDrags o_kept o_sets o_code o_cellAt o_turnsAt o_slowAt o_fuelAt o_ringAt _ (okb7 hw)) (cwV 0 hts (gdV (fun w h => List.mem_cons_of_mem _ h) q_900 q_902 qs_29 q_8 q_903) rfl rfl rfl (by decide +kernel) ⟨Nat.le_of_ble_eq_true rfl, Nat.le_of_ble_eq_true rfl⟩) ⟨(kpre zN_ok hK hPc hDc trivial hS hFc).1, va_recv hK hP (ci := 7) (q0 := 0) rfl rfl, (kpre zN_ok hK hPc hDc trivial hS hFc).2⟩ rfl rfl hl.1 rfl (lv_room (Nat.le_of_ble_eq_true rfl)) dX7_may_35 ⟨Nat.le_of_ble_eq_true rfl, Nat.le_of_ble_eq_true rfl⟩) hP hD hS hFc [0, 1, 4, 5, 8, 9, 10, 11] [2, 3, 6, 7] rfl rfl (by decide +kernel) (by decide +kernel) (fun u H locs hw hP hD hS => ?_)
      obtain ⟨w_23, w_24, w_25, w_26, w_27, w_28, w_29⟩ := u
      try dsimp only at hw
      have hP : va_P (dC, dI) vwCl (W_X7_may cyI cyJ cyO h_o a_o_sets a_o_ringFar a_o_ringTone a_o_currents a_o_warmths a_o_depths a_o_tape a_o_readFar a_o_readTone a_o_readSea a_o_code a_o_cellAt a_o_courseAt a_o_paceAt a_o_turnsAt a_o_slowAt a_o_fuelAt a_o_ringAt a_o_pieceParts a_o_dragCell a_o_dragBy a_o_sums a_o_shares a_o_keptFar a_o_image a_o_lanes a_o_sizes a_o_items a_o_movedItems o_taped o_at o_wrong w_23 w_20 w_21 w_22 o_pieces o_drags o_all o_noPieces o_noDrags o_kept o_sets o_ringFar o_ringTone w_24 w_25 o_courseAt o_paceAt w_26 w_27 w_28 w_29) H := hP.sub [4, 5, 0, 1, 6, 7, 2, 3, 8, 9, 10, 11] rfl
      have hD : va_D A (W_X7_may cyI cyJ cyO h_o a_o_sets a_o_ringFar a_o_ringTone a_o_currents a_o_warmths a_o_depths a_o_tape a_o_readFar a_o_readTone a_o_readSea a_o_code a_o_cellAt a_o_courseAt a_o_paceAt a_o_turnsAt a_o_slowAt a_o_fuelAt a_o_ringAt a_o_pieceParts a_o_dragCell a_o_dragBy a_o_sums a_o_shares a_o_keptFar a_o_image a_o_lanes a_o_sizes a_o_items a_o_movedItems o_taped o_at o_wrong w_23 w_20 w_21 w_22 o_pieces o_drags o_all o_noPieces o_noDrags o_kept o_sets o_ringFar o_ringTone w_24 w_25 o_courseAt o_paceAt w_26 w_27 w_28 w_29) := hD.sub [4, 5, 0, 1, 6, 7, 2, 3, 8, 9, 10, 11] (by decide +kernel) rfl
      clear hPc hDc hFc
      refine lv_iconst (v := 0) hx hb dX7_may_38 (by decide) ?_
      refine lv_istore_n (lv' := [(3, .int 0), (0, .ref h_o), (1, .int x1), (2, .int x2)]) hx hb dX7_may_39 rfl hl (by decide) rfl (fun ls hl => ?_)
      exact w40 FU x1 x2 0 w_23 w_20 w_21 w_22 w_24 w_25 o_courseAt o_paceAt w_26 w_27 w_28 w_29 _ _ hP hD hS _ (lv_sub hl [1, 2, 3, 0] rfl) hw
    · replace hw := okT hw c_19
      clear c_19
      refine lv_iconst (v := (-1)) hx hb dX7_may_28 (by decide) ?_
      rw [hQ]
      exact W.iret (v := (-1)) hx hb hr (fun t ht hW => ⟨⟨(-1), (o_level, o_noRings, o_noTones, o_noFuel, o_code, o_cellAt, o_courseAt, o_paceAt, o_turnsAt, o_slowAt, o_fuelAt, o_ringAt), rfl, okS hw, by rw [ht]; exact hP, va_K.moved hW.alike hK, hD⟩, hS.F ht⟩) hS.2.2 dX7_may_29
