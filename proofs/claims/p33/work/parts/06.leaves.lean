/-! ===== X6_within ===== -/
theorem dX6_within_0 : decode cX6_within 0 = .ok (.iload_n 0, 1) := by decide +kernel
theorem dX6_within_1 : decode cX6_within 1 = .ok (.iload_n 1, 1) := by decide +kernel
theorem dX6_within_2 : decode cX6_within 2 = .ok (.if_icmp .lt 12, 3) := by decide +kernel
theorem dX6_within_5 : decode cX6_within 5 = .ok (.iload_n 0, 1) := by decide +kernel
theorem dX6_within_6 : decode cX6_within 6 = .ok (.iload_n 2, 1) := by decide +kernel
theorem dX6_within_7 : decode cX6_within 7 = .ok (.if_icmp .gt 7, 3) := by decide +kernel
theorem dX6_within_10 : decode cX6_within 10 = .ok (.iconst 1, 1) := by decide +kernel
theorem dX6_within_11 : decode cX6_within 11 = .ok (.goto 4, 3) := by decide +kernel
theorem dX6_within_14 : decode cX6_within 14 = .ok (.iconst 0, 1) := by decide +kernel
theorem dX6_within_15 : decode cX6_within 15 = .ok (.ireturn, 1) := by decide +kernel
abbrev W_X6_within (cyI cyJ cyO : ClassId) : va_W := []
def f_X6_within (x1 : Int32) (x2 : Int32) (x3 : Int32) : Option (Int32) :=
  if x1 < x2 then
    some 0
  else
    if x3 < x1 then
      some 0
    else
      some 1
abbrev rm_X6_within : Room := { frames := 0, cells := 0, slots := 0, locals := 0 }
set_option maxRecDepth 100000 in
set_option maxHeartbeats 4000000 in
theorem c_X6_within (l : Launch) (dC : Nat → ClassId) (dI : Nat → Nat → Nat) (cyI cyJ cyO : ClassId) (sz : Nat) (x1 : Int32) (x2 : Int32) (x3 : Int32) (post : Int32 → Prop) (hf : okP (f_X6_within x1 x2 x3) post) : Ci l (dC, dI) (tyL cyI cyJ cyO) yX6_within wsX6_within rm_X6_within [.int x1, .int x2, .int x3] sz (W_X6_within cyI cyJ cyO) zN (fun r (_ : Unit) => post r) (fun _ => (W_X6_within cyI cyJ cyO)) := by
  refine Met.ofW (cc := cX6_within) (maxL := 3) (ret := (some .boolean)) (by decide) rfl ?_
  intro p e s m args below meth c s₁ B hml hv
  obtain ⟨rfl, hsz, hP, hK, hD0, hZ⟩ := hv
  have hx := B.exec
  have hb := B.bytes
  have hr := B.returns
  have hts := atoms_spec (ws := wsX6_within) B.pre
  have hown : s.vm.findClass RX6 = some m.cls := findClass_of_methodNamed B.named
  have hlocks := B.notSynchronized
  subst hsz
  have hD := hD0.self (sz := s.heap.size)
  generalize hAe : va_A (W_X6_within cyI cyJ cyO) s.heap.size = A at hD hZ ⊢
  have hA : ∀ q : Nat, s.heap.size ≤ q → A q := fun q h => by rw [← hAe]; exact Or.inr h
  clear hAe hD0
  have hS : va_S A s.heap s.heap [] := va_S.rf
  have hl := lv_entry ([.int x1, .int x2, .int x3]) (n := 3) (Nat.le_of_ble_eq_true rfl)
  rw [lg_entry_eq]
  generalize (lg_sl ([.int x1, .int x2, .int x3]) ++ List.replicate (3 - (lg_sl ([.int x1, .int x2, .int x3])).length) Slot.unset).toArray = ls at hl ⊢
  have hl : lv_has ls 3 [(0, .int x1), (1, .int x2), (2, .int x3)] := hl
  refine kW (fun Q hQ => ?_)
  have hw := hf
  unfold f_X6_within at hw
  have hP : va_P (dC, dI) vwCl (W_X6_within cyI cyJ cyO) s.heap := hP
  obtain ⟨H, hH⟩ : ∃ H, H = s.heap := ⟨_, rfl⟩
  obtain ⟨locs, hlo⟩ : ∃ x : List Loc, x = [] := ⟨_, rfl⟩
  have hP : va_P (dC, dI) vwCl (W_X6_within cyI cyJ cyO) H := by rw [hH]; exact hP
  have hS : va_S A s.heap H locs := by rw [hH, hlo]; exact hS
  refine kH hH hlo ?_
  clear hH hlo
  refine lv_iload_n hx hb dX6_within_0 rfl (lv_at hl 0 rfl) ?_
  refine lv_iload_n hx hb dX6_within_1 rfl (lv_at hl 1 rfl) ?_
  refine lv_icmp_lt (tgt := 14) hx hb dX6_within_2 (by decide) (fun c_1 => ?_) (fun c_1 => ?_)
  · replace hw := okT hw c_1
    clear c_1
    refine lv_iconst (v := 0) hx hb dX6_within_14 (by decide) ?_
    rw [hQ]
    exact W.zret (v := 0) hx hb hr (by decide) (fun t ht hW => ⟨⟨0, (), rfl, okS hw, by rw [ht]; exact hP, va_K.moved hW.alike hK, hD⟩, hS.F ht⟩) hS.2.2 dX6_within_15
  · replace hw := okF hw c_1
    clear c_1
    refine lv_iload_n hx hb dX6_within_5 rfl (lv_at hl 0 rfl) ?_
    refine lv_iload_n hx hb dX6_within_6 rfl (lv_at hl 2 rfl) ?_
    refine lv_icmp_gt (tgt := 14) hx hb dX6_within_7 (by decide) (fun c_2 => ?_) (fun c_2 => ?_)
    · replace hw := okT hw c_2
      clear c_2
      refine lv_iconst (v := 0) hx hb dX6_within_14 (by decide) ?_
      rw [hQ]
      exact W.zret (v := 0) hx hb hr (by decide) (fun t ht hW => ⟨⟨0, (), rfl, okS hw, by rw [ht]; exact hP, va_K.moved hW.alike hK, hD⟩, hS.F ht⟩) hS.2.2 dX6_within_15
    · replace hw := okF hw c_2
      clear c_2
      refine lv_iconst (v := 1) hx hb dX6_within_10 (by decide) ?_
      refine lv_goto (tgt := 15) hx hb dX6_within_11 (by decide) ?_
      rw [hQ]
      exact W.zret (v := 1) hx hb hr (by decide) (fun t ht hW => ⟨⟨1, (), rfl, okS hw, by rw [ht]; exact hP, va_K.moved hW.alike hK, hD⟩, hS.F ht⟩) hS.2.2 dX6_within_15
/-! ===== X6_isCell ===== -/
theorem dX6_isCell_0 : decode cX6_isCell 0 = .ok (.iload_n 0, 1) := by decide +kernel
theorem dX6_isCell_1 : decode cX6_isCell 1 = .ok (.ifCond .lt 13, 3) := by decide +kernel
theorem dX6_isCell_4 : decode cX6_isCell 4 = .ok (.iload_n 0, 1) := by decide +kernel
theorem dX6_isCell_5 : decode cX6_isCell 5 = .ok (.bipush 100, 2) := by decide +kernel
theorem dX6_isCell_7 : decode cX6_isCell 7 = .ok (.if_icmp .ge 7, 3) := by decide +kernel
theorem dX6_isCell_10 : decode cX6_isCell 10 = .ok (.iconst 1, 1) := by decide +kernel
theorem dX6_isCell_11 : decode cX6_isCell 11 = .ok (.goto 4, 3) := by decide +kernel
theorem dX6_isCell_14 : decode cX6_isCell 14 = .ok (.iconst 0, 1) := by decide +kernel
theorem dX6_isCell_15 : decode cX6_isCell 15 = .ok (.ireturn, 1) := by decide +kernel
abbrev W_X6_isCell (cyI cyJ cyO : ClassId) : va_W := []
def f_X6_isCell (x1 : Int32) : Option (Int32) :=
  if x1 < 0 then
    some 0
  else
    if 100 ≤ x1 then
      some 0
    else
      some 1
abbrev rm_X6_isCell : Room := { frames := 0, cells := 0, slots := 0, locals := 0 }
set_option maxRecDepth 100000 in
set_option maxHeartbeats 4000000 in
theorem c_X6_isCell (l : Launch) (dC : Nat → ClassId) (dI : Nat → Nat → Nat) (cyI cyJ cyO : ClassId) (sz : Nat) (x1 : Int32) (post : Int32 → Prop) (hf : okP (f_X6_isCell x1) post) : Ci l (dC, dI) (tyL cyI cyJ cyO) yX6_isCell wsX6_isCell rm_X6_isCell [.int x1] sz (W_X6_isCell cyI cyJ cyO) zN (fun r (_ : Unit) => post r) (fun _ => (W_X6_isCell cyI cyJ cyO)) := by
  refine Met.ofW (cc := cX6_isCell) (maxL := 1) (ret := (some .boolean)) (by decide) rfl ?_
  intro p e s m args below meth c s₁ B hml hv
  obtain ⟨rfl, hsz, hP, hK, hD0, hZ⟩ := hv
  have hx := B.exec
  have hb := B.bytes
  have hr := B.returns
  have hts := atoms_spec (ws := wsX6_isCell) B.pre
  have hown : s.vm.findClass RX6 = some m.cls := findClass_of_methodNamed B.named
  have hlocks := B.notSynchronized
  subst hsz
  have hD := hD0.self (sz := s.heap.size)
  generalize hAe : va_A (W_X6_isCell cyI cyJ cyO) s.heap.size = A at hD hZ ⊢
  have hA : ∀ q : Nat, s.heap.size ≤ q → A q := fun q h => by rw [← hAe]; exact Or.inr h
  clear hAe hD0
  have hS : va_S A s.heap s.heap [] := va_S.rf
  have hl := lv_entry ([.int x1]) (n := 1) (Nat.le_of_ble_eq_true rfl)
  rw [lg_entry_eq]
  generalize (lg_sl ([.int x1]) ++ List.replicate (1 - (lg_sl ([.int x1])).length) Slot.unset).toArray = ls at hl ⊢
  have hl : lv_has ls 1 [(0, .int x1)] := hl
  refine kW (fun Q hQ => ?_)
  have hw := hf
  unfold f_X6_isCell at hw
  have hP : va_P (dC, dI) vwCl (W_X6_isCell cyI cyJ cyO) s.heap := hP
  obtain ⟨H, hH⟩ : ∃ H, H = s.heap := ⟨_, rfl⟩
  obtain ⟨locs, hlo⟩ : ∃ x : List Loc, x = [] := ⟨_, rfl⟩
  have hP : va_P (dC, dI) vwCl (W_X6_isCell cyI cyJ cyO) H := by rw [hH]; exact hP
  have hS : va_S A s.heap H locs := by rw [hH, hlo]; exact hS
  refine kH hH hlo ?_
  clear hH hlo
  refine lv_iload_n hx hb dX6_isCell_0 rfl (lv_at hl 0 rfl) ?_
  refine lv_if_lt (tgt := 14) hx hb dX6_isCell_1 (by decide) (fun c_1 => ?_) (fun c_1 => ?_)
  · replace hw := okT hw c_1
    clear c_1
    refine lv_iconst (v := 0) hx hb dX6_isCell_14 (by decide) ?_
    rw [hQ]
    exact W.zret (v := 0) hx hb hr (by decide) (fun t ht hW => ⟨⟨0, (), rfl, okS hw, by rw [ht]; exact hP, va_K.moved hW.alike hK, hD⟩, hS.F ht⟩) hS.2.2 dX6_isCell_15
  · replace hw := okF hw c_1
    clear c_1
    refine lv_iload_n hx hb dX6_isCell_4 rfl (lv_at hl 0 rfl) ?_
    refine lv_bipush (v := 100) hx hb dX6_isCell_5 (by decide) ?_
    refine lv_icmp_ge (tgt := 14) hx hb dX6_isCell_7 (by decide) (fun c_2 => ?_) (fun c_2 => ?_)
    · replace hw := okT hw c_2
      clear c_2
      refine lv_iconst (v := 0) hx hb dX6_isCell_14 (by decide) ?_
      rw [hQ]
      exact W.zret (v := 0) hx hb hr (by decide) (fun t ht hW => ⟨⟨0, (), rfl, okS hw, by rw [ht]; exact hP, va_K.moved hW.alike hK, hD⟩, hS.F ht⟩) hS.2.2 dX6_isCell_15
    · replace hw := okF hw c_2
      clear c_2
      refine lv_iconst (v := 1) hx hb dX6_isCell_10 (by decide) ?_
      refine lv_goto (tgt := 15) hx hb dX6_isCell_11 (by decide) ?_
      rw [hQ]
      exact W.zret (v := 1) hx hb hr (by decide) (fun t ht hW => ⟨⟨1, (), rfl, okS hw, by rw [ht]; exact hP, va_K.moved hW.alike hK, hD⟩, hS.F ht⟩) hS.2.2 dX6_isCell_15
/-! ===== X6_isSheet ===== -/
theorem dX6_isSheet_0 : decode cX6_isSheet 0 = .ok (.iload_n 0, 1) := by decide +kernel
theorem dX6_isSheet_1 : decode cX6_isSheet 1 = .ok (.ifCond .lt 12, 3) := by decide +kernel
theorem dX6_isSheet_4 : decode cX6_isSheet 4 = .ok (.iload_n 0, 1) := by decide +kernel
theorem dX6_isSheet_5 : decode cX6_isSheet 5 = .ok (.iconst 4, 1) := by decide +kernel
theorem dX6_isSheet_6 : decode cX6_isSheet 6 = .ok (.if_icmp .ge 7, 3) := by decide +kernel
theorem dX6_isSheet_9 : decode cX6_isSheet 9 = .ok (.iconst 1, 1) := by decide +kernel
theorem dX6_isSheet_10 : decode cX6_isSheet 10 = .ok (.goto 4, 3) := by decide +kernel
theorem dX6_isSheet_13 : decode cX6_isSheet 13 = .ok (.iconst 0, 1) := by decide +kernel
theorem dX6_isSheet_14 : decode cX6_isSheet 14 = .ok (.ireturn, 1) := by decide +kernel
abbrev W_X6_isSheet (cyI cyJ cyO : ClassId) : va_W := []
def f_X6_isSheet (x1 : Int32) : Option (Int32) :=
  if x1 < 0 then
    some 0
  else
    if 4 ≤ x1 then
      some 0
    else
      some 1
abbrev rm_X6_isSheet : Room := { frames := 0, cells := 0, slots := 0, locals := 0 }
set_option maxRecDepth 100000 in
set_option maxHeartbeats 4000000 in
theorem c_X6_isSheet (l : Launch) (dC : Nat → ClassId) (dI : Nat → Nat → Nat) (cyI cyJ cyO : ClassId) (sz : Nat) (x1 : Int32) (post : Int32 → Prop) (hf : okP (f_X6_isSheet x1) post) : Ci l (dC, dI) (tyL cyI cyJ cyO) yX6_isSheet wsX6_isSheet rm_X6_isSheet [.int x1] sz (W_X6_isSheet cyI cyJ cyO) zN (fun r (_ : Unit) => post r) (fun _ => (W_X6_isSheet cyI cyJ cyO)) := by
  refine Met.ofW (cc := cX6_isSheet) (maxL := 1) (ret := (some .boolean)) (by decide) rfl ?_
  intro p e s m args below meth c s₁ B hml hv
  obtain ⟨rfl, hsz, hP, hK, hD0, hZ⟩ := hv
  have hx := B.exec
  have hb := B.bytes
  have hr := B.returns
  have hts := atoms_spec (ws := wsX6_isSheet) B.pre
  have hown : s.vm.findClass RX6 = some m.cls := findClass_of_methodNamed B.named
  have hlocks := B.notSynchronized
  subst hsz
  have hD := hD0.self (sz := s.heap.size)
  generalize hAe : va_A (W_X6_isSheet cyI cyJ cyO) s.heap.size = A at hD hZ ⊢
  have hA : ∀ q : Nat, s.heap.size ≤ q → A q := fun q h => by rw [← hAe]; exact Or.inr h
  clear hAe hD0
  have hS : va_S A s.heap s.heap [] := va_S.rf
  have hl := lv_entry ([.int x1]) (n := 1) (Nat.le_of_ble_eq_true rfl)
  rw [lg_entry_eq]
  generalize (lg_sl ([.int x1]) ++ List.replicate (1 - (lg_sl ([.int x1])).length) Slot.unset).toArray = ls at hl ⊢
  have hl : lv_has ls 1 [(0, .int x1)] := hl
  refine kW (fun Q hQ => ?_)
  have hw := hf
  unfold f_X6_isSheet at hw
  have hP : va_P (dC, dI) vwCl (W_X6_isSheet cyI cyJ cyO) s.heap := hP
  obtain ⟨H, hH⟩ : ∃ H, H = s.heap := ⟨_, rfl⟩
  obtain ⟨locs, hlo⟩ : ∃ x : List Loc, x = [] := ⟨_, rfl⟩
  have hP : va_P (dC, dI) vwCl (W_X6_isSheet cyI cyJ cyO) H := by rw [hH]; exact hP
  have hS : va_S A s.heap H locs := by rw [hH, hlo]; exact hS
  refine kH hH hlo ?_
  clear hH hlo
  refine lv_iload_n hx hb dX6_isSheet_0 rfl (lv_at hl 0 rfl) ?_
  refine lv_if_lt (tgt := 13) hx hb dX6_isSheet_1 (by decide) (fun c_1 => ?_) (fun c_1 => ?_)
  · replace hw := okT hw c_1
    clear c_1
    refine lv_iconst (v := 0) hx hb dX6_isSheet_13 (by decide) ?_
    rw [hQ]
    exact W.zret (v := 0) hx hb hr (by decide) (fun t ht hW => ⟨⟨0, (), rfl, okS hw, by rw [ht]; exact hP, va_K.moved hW.alike hK, hD⟩, hS.F ht⟩) hS.2.2 dX6_isSheet_14
  · replace hw := okF hw c_1
    clear c_1
    refine lv_iload_n hx hb dX6_isSheet_4 rfl (lv_at hl 0 rfl) ?_
    refine lv_iconst (v := 4) hx hb dX6_isSheet_5 (by decide) ?_
    refine lv_icmp_ge (tgt := 13) hx hb dX6_isSheet_6 (by decide) (fun c_2 => ?_) (fun c_2 => ?_)
    · replace hw := okT hw c_2
      clear c_2
      refine lv_iconst (v := 0) hx hb dX6_isSheet_13 (by decide) ?_
      rw [hQ]
      exact W.zret (v := 0) hx hb hr (by decide) (fun t ht hW => ⟨⟨0, (), rfl, okS hw, by rw [ht]; exact hP, va_K.moved hW.alike hK, hD⟩, hS.F ht⟩) hS.2.2 dX6_isSheet_14
    · replace hw := okF hw c_2
      clear c_2
      refine lv_iconst (v := 1) hx hb dX6_isSheet_9 (by decide) ?_
      refine lv_goto (tgt := 14) hx hb dX6_isSheet_10 (by decide) ?_
      rw [hQ]
      exact W.zret (v := 1) hx hb hr (by decide) (fun t ht hW => ⟨⟨1, (), rfl, okS hw, by rw [ht]; exact hP, va_K.moved hW.alike hK, hD⟩, hS.F ht⟩) hS.2.2 dX6_isSheet_14
/-! ===== X6_isLane ===== -/
theorem dX6_isLane_0 : decode cX6_isLane 0 = .ok (.iload_n 0, 1) := by decide +kernel
theorem dX6_isLane_1 : decode cX6_isLane 1 = .ok (.ifCond .lt 12, 3) := by decide +kernel
theorem dX6_isLane_4 : decode cX6_isLane 4 = .ok (.iload_n 0, 1) := by decide +kernel
theorem dX6_isLane_5 : decode cX6_isLane 5 = .ok (.iconst 3, 1) := by decide +kernel
theorem dX6_isLane_6 : decode cX6_isLane 6 = .ok (.if_icmp .ge 7, 3) := by decide +kernel
theorem dX6_isLane_9 : decode cX6_isLane 9 = .ok (.iconst 1, 1) := by decide +kernel
theorem dX6_isLane_10 : decode cX6_isLane 10 = .ok (.goto 4, 3) := by decide +kernel
theorem dX6_isLane_13 : decode cX6_isLane 13 = .ok (.iconst 0, 1) := by decide +kernel
theorem dX6_isLane_14 : decode cX6_isLane 14 = .ok (.ireturn, 1) := by decide +kernel
abbrev W_X6_isLane (cyI cyJ cyO : ClassId) : va_W := []
def f_X6_isLane (x1 : Int32) : Option (Int32) :=
  if x1 < 0 then
    some 0
  else
    if 3 ≤ x1 then
      some 0
    else
      some 1
abbrev rm_X6_isLane : Room := { frames := 0, cells := 0, slots := 0, locals := 0 }
set_option maxRecDepth 100000 in
set_option maxHeartbeats 4000000 in
theorem c_X6_isLane (l : Launch) (dC : Nat → ClassId) (dI : Nat → Nat → Nat) (cyI cyJ cyO : ClassId) (sz : Nat) (x1 : Int32) (post : Int32 → Prop) (hf : okP (f_X6_isLane x1) post) : Ci l (dC, dI) (tyL cyI cyJ cyO) yX6_isLane wsX6_isLane rm_X6_isLane [.int x1] sz (W_X6_isLane cyI cyJ cyO) zN (fun r (_ : Unit) => post r) (fun _ => (W_X6_isLane cyI cyJ cyO)) := by
  refine Met.ofW (cc := cX6_isLane) (maxL := 1) (ret := (some .boolean)) (by decide) rfl ?_
  intro p e s m args below meth c s₁ B hml hv
  obtain ⟨rfl, hsz, hP, hK, hD0, hZ⟩ := hv
  have hx := B.exec
  have hb := B.bytes
  have hr := B.returns
  have hts := atoms_spec (ws := wsX6_isLane) B.pre
  have hown : s.vm.findClass RX6 = some m.cls := findClass_of_methodNamed B.named
  have hlocks := B.notSynchronized
  subst hsz
  have hD := hD0.self (sz := s.heap.size)
  generalize hAe : va_A (W_X6_isLane cyI cyJ cyO) s.heap.size = A at hD hZ ⊢
  have hA : ∀ q : Nat, s.heap.size ≤ q → A q := fun q h => by rw [← hAe]; exact Or.inr h
  clear hAe hD0
  have hS : va_S A s.heap s.heap [] := va_S.rf
  have hl := lv_entry ([.int x1]) (n := 1) (Nat.le_of_ble_eq_true rfl)
  rw [lg_entry_eq]
  generalize (lg_sl ([.int x1]) ++ List.replicate (1 - (lg_sl ([.int x1])).length) Slot.unset).toArray = ls at hl ⊢
  have hl : lv_has ls 1 [(0, .int x1)] := hl
  refine kW (fun Q hQ => ?_)
  have hw := hf
  unfold f_X6_isLane at hw
  have hP : va_P (dC, dI) vwCl (W_X6_isLane cyI cyJ cyO) s.heap := hP
  obtain ⟨H, hH⟩ : ∃ H, H = s.heap := ⟨_, rfl⟩
  obtain ⟨locs, hlo⟩ : ∃ x : List Loc, x = [] := ⟨_, rfl⟩
  have hP : va_P (dC, dI) vwCl (W_X6_isLane cyI cyJ cyO) H := by rw [hH]; exact hP
  have hS : va_S A s.heap H locs := by rw [hH, hlo]; exact hS
  refine kH hH hlo ?_
  clear hH hlo
  refine lv_iload_n hx hb dX6_isLane_0 rfl (lv_at hl 0 rfl) ?_
  refine lv_if_lt (tgt := 13) hx hb dX6_isLane_1 (by decide) (fun c_1 => ?_) (fun c_1 => ?_)
  · replace hw := okT hw c_1
    clear c_1
    refine lv_iconst (v := 0) hx hb dX6_isLane_13 (by decide) ?_
    rw [hQ]
    exact W.zret (v := 0) hx hb hr (by decide) (fun t ht hW => ⟨⟨0, (), rfl, okS hw, by rw [ht]; exact hP, va_K.moved hW.alike hK, hD⟩, hS.F ht⟩) hS.2.2 dX6_isLane_14
  · replace hw := okF hw c_1
    clear c_1
    refine lv_iload_n hx hb dX6_isLane_4 rfl (lv_at hl 0 rfl) ?_
    refine lv_iconst (v := 3) hx hb dX6_isLane_5 (by decide) ?_
    refine lv_icmp_ge (tgt := 13) hx hb dX6_isLane_6 (by decide) (fun c_2 => ?_) (fun c_2 => ?_)
    · replace hw := okT hw c_2
      clear c_2
      refine lv_iconst (v := 0) hx hb dX6_isLane_13 (by decide) ?_
      rw [hQ]
      exact W.zret (v := 0) hx hb hr (by decide) (fun t ht hW => ⟨⟨0, (), rfl, okS hw, by rw [ht]; exact hP, va_K.moved hW.alike hK, hD⟩, hS.F ht⟩) hS.2.2 dX6_isLane_14
    · replace hw := okF hw c_2
      clear c_2
      refine lv_iconst (v := 1) hx hb dX6_isLane_9 (by decide) ?_
      refine lv_goto (tgt := 14) hx hb dX6_isLane_10 (by decide) ?_
      rw [hQ]
      exact W.zret (v := 1) hx hb hr (by decide) (fun t ht hW => ⟨⟨1, (), rfl, okS hw, by rw [ht]; exact hP, va_K.moved hW.alike hK, hD⟩, hS.F ht⟩) hS.2.2 dX6_isLane_14
/-! ===== X6_ahead ===== -/
theorem dX6_ahead_0 : decode cX6_ahead 0 = .ok (.iload_n 0, 1) := by decide +kernel
theorem dX6_ahead_1 : decode cX6_ahead 1 = .ok (.ifCond .lt 19, 3) := by decide +kernel
theorem dX6_ahead_4 : decode cX6_ahead 4 = .ok (.iload_n 0, 1) := by decide +kernel
theorem dX6_ahead_5 : decode cX6_ahead 5 = .ok (.bipush 100, 2) := by decide +kernel
theorem dX6_ahead_7 : decode cX6_ahead 7 = .ok (.if_icmp .ge 13, 3) := by decide +kernel
theorem dX6_ahead_10 : decode cX6_ahead 10 = .ok (.iload_n 1, 1) := by decide +kernel
theorem dX6_ahead_11 : decode cX6_ahead 11 = .ok (.ifCond .lt 9, 3) := by decide +kernel
theorem dX6_ahead_14 : decode cX6_ahead 14 = .ok (.iload_n 1, 1) := by decide +kernel
theorem dX6_ahead_15 : decode cX6_ahead 15 = .ok (.bipush 8, 2) := by decide +kernel
theorem dX6_ahead_17 : decode cX6_ahead 17 = .ok (.if_icmp .lt 5, 3) := by decide +kernel
theorem dX6_ahead_20 : decode cX6_ahead 20 = .ok (.iconst (-1), 1) := by decide +kernel
theorem dX6_ahead_21 : decode cX6_ahead 21 = .ok (.ireturn, 1) := by decide +kernel
theorem dX6_ahead_22 : decode cX6_ahead 22 = .ok (.iload_n 0, 1) := by decide +kernel
theorem dX6_ahead_23 : decode cX6_ahead 23 = .ok (.bipush 10, 2) := by decide +kernel
theorem dX6_ahead_25 : decode cX6_ahead 25 = .ok (.idiv, 1) := by decide +kernel
theorem dX6_ahead_26 : decode cX6_ahead 26 = .ok (.iload_n 2, 1) := by decide +kernel
theorem dX6_ahead_27 : decode cX6_ahead 27 = .ok (.getstatic 301, 3) := by decide +kernel
theorem dX6_ahead_30 : decode cX6_ahead 30 = .ok (.iload_n 1, 1) := by decide +kernel
theorem dX6_ahead_31 : decode cX6_ahead 31 = .ok (.iaload, 1) := by decide +kernel
theorem dX6_ahead_32 : decode cX6_ahead 32 = .ok (.imul, 1) := by decide +kernel
theorem dX6_ahead_33 : decode cX6_ahead 33 = .ok (.iadd, 1) := by decide +kernel
theorem dX6_ahead_34 : decode cX6_ahead 34 = .ok (.istore_n 3, 1) := by decide +kernel
theorem dX6_ahead_35 : decode cX6_ahead 35 = .ok (.iload_n 0, 1) := by decide +kernel
theorem dX6_ahead_36 : decode cX6_ahead 36 = .ok (.bipush 10, 2) := by decide +kernel
theorem dX6_ahead_38 : decode cX6_ahead 38 = .ok (.irem, 1) := by decide +kernel
theorem dX6_ahead_39 : decode cX6_ahead 39 = .ok (.iload_n 2, 1) := by decide +kernel
theorem dX6_ahead_40 : decode cX6_ahead 40 = .ok (.getstatic 304, 3) := by decide +kernel
theorem dX6_ahead_43 : decode cX6_ahead 43 = .ok (.iload_n 1, 1) := by decide +kernel
theorem dX6_ahead_44 : decode cX6_ahead 44 = .ok (.iaload, 1) := by decide +kernel
theorem dX6_ahead_45 : decode cX6_ahead 45 = .ok (.imul, 1) := by decide +kernel
theorem dX6_ahead_46 : decode cX6_ahead 46 = .ok (.iadd, 1) := by decide +kernel
theorem dX6_ahead_47 : decode cX6_ahead 47 = .ok (.istore 4, 2) := by decide +kernel
theorem dX6_ahead_49 : decode cX6_ahead 49 = .ok (.iload_n 3, 1) := by decide +kernel
theorem dX6_ahead_50 : decode cX6_ahead 50 = .ok (.ifCond .lt 25, 3) := by decide +kernel
theorem dX6_ahead_53 : decode cX6_ahead 53 = .ok (.iload_n 3, 1) := by decide +kernel
theorem dX6_ahead_54 : decode cX6_ahead 54 = .ok (.bipush 10, 2) := by decide +kernel
theorem dX6_ahead_56 : decode cX6_ahead 56 = .ok (.if_icmp .ge 19, 3) := by decide +kernel
theorem dX6_ahead_59 : decode cX6_ahead 59 = .ok (.iload 4, 2) := by decide +kernel
theorem dX6_ahead_61 : decode cX6_ahead 61 = .ok (.ifCond .lt 14, 3) := by decide +kernel
theorem dX6_ahead_64 : decode cX6_ahead 64 = .ok (.iload 4, 2) := by decide +kernel
theorem dX6_ahead_66 : decode cX6_ahead 66 = .ok (.bipush 10, 2) := by decide +kernel
theorem dX6_ahead_68 : decode cX6_ahead 68 = .ok (.if_icmp .ge 7, 3) := by decide +kernel
theorem dX6_ahead_71 : decode cX6_ahead 71 = .ok (.iconst 1, 1) := by decide +kernel
theorem dX6_ahead_72 : decode cX6_ahead 72 = .ok (.goto 4, 3) := by decide +kernel
theorem dX6_ahead_75 : decode cX6_ahead 75 = .ok (.iconst 0, 1) := by decide +kernel
theorem dX6_ahead_76 : decode cX6_ahead 76 = .ok (.istore 5, 2) := by decide +kernel
theorem dX6_ahead_78 : decode cX6_ahead 78 = .ok (.iload 5, 2) := by decide +kernel
theorem dX6_ahead_80 : decode cX6_ahead 80 = .ok (.ifCond .eq 13, 3) := by decide +kernel
theorem dX6_ahead_83 : decode cX6_ahead 83 = .ok (.bipush 10, 2) := by decide +kernel
theorem dX6_ahead_85 : decode cX6_ahead 85 = .ok (.iload_n 3, 1) := by decide +kernel
theorem dX6_ahead_86 : decode cX6_ahead 86 = .ok (.imul, 1) := by decide +kernel
theorem dX6_ahead_87 : decode cX6_ahead 87 = .ok (.iload 4, 2) := by decide +kernel
theorem dX6_ahead_89 : decode cX6_ahead 89 = .ok (.iadd, 1) := by decide +kernel
theorem dX6_ahead_90 : decode cX6_ahead 90 = .ok (.goto 4, 3) := by decide +kernel
theorem dX6_ahead_93 : decode cX6_ahead 93 = .ok (.iconst (-1), 1) := by decide +kernel
theorem dX6_ahead_94 : decode cX6_ahead 94 = .ok (.ireturn, 1) := by decide +kernel
abbrev W_X6_ahead (cyI cyJ cyO : ClassId) : va_W := []
def f_X6_ahead_B76 (v3 : Int32) (v4 : Int32) (y0 : Int32) : Option (Int32) :=
  if y0 = 0 then
    some (-1)
  else
    some ((10 * v3) + v4)
def f_X6_ahead_B75 (v3 : Int32) (v4 : Int32) : Option (Int32) :=
  f_X6_ahead_B76 v3 v4 0
def f_X6_ahead (x1 : Int32) (x2 : Int32) (x3 : Int32) : Option (Int32) :=
  if x1 < 0 then
    some (-1)
  else
    if 100 ≤ x1 then
      some (-1)
    else
      if x2 < 0 then
        some (-1)
      else
        if x2 < 8 then
          chk (¬ (x2 < 0 ∨ 8 ≤ x2.toNatClampNeg)) <|
          nm ((x1 / 10) + (x3 * (tabD x2.toNatClampNeg))) fun x_1 =>
          chk (¬ (x2 < 0 ∨ 8 ≤ x2.toNatClampNeg)) <|
          nm ((x1 - x1 / 10 * 10) + (x3 * (tabR x2.toNatClampNeg))) fun x_2 =>
          if x_1 < 0 then
            f_X6_ahead_B75 x_1 x_2
          else
            if 10 ≤ x_1 then
              f_X6_ahead_B75 x_1 x_2
            else
              if x_2 < 0 then
                f_X6_ahead_B75 x_1 x_2
              else
                if 10 ≤ x_2 then
                  f_X6_ahead_B75 x_1 x_2
                else
                  f_X6_ahead_B76 x_1 x_2 1
        else
          some (-1)
abbrev rm_X6_ahead : Room := { frames := 0, cells := 0, slots := 0, locals := 0 }
set_option maxRecDepth 100000 in
set_option maxHeartbeats 4000000 in
theorem c_X6_ahead (l : Launch) (dC : Nat → ClassId) (dI : Nat → Nat → Nat) (cyI cyJ cyO : ClassId) (sz : Nat) (tD tR tL tM : Nat) (x1 : Int32) (x2 : Int32) (x3 : Int32) (post : Int32 → Prop) (hf : okP (f_X6_ahead x1 x2 x3) post) : Ci l (dC, dI) (tyL cyI cyJ cyO) yX6_ahead wsX6_ahead rm_X6_ahead [.int x1, .int x2, .int x3] sz (W_X6_ahead cyI cyJ cyO) (zX tD tR tL tM) (fun r (_ : Unit) => post r) (fun _ => (W_X6_ahead cyI cyJ cyO)) := by
  refine Met.ofW (cc := cX6_ahead) (maxL := 6) (ret := (some .int)) (by decide) rfl ?_
  intro p e s m args below meth c s₁ B hml hv
  obtain ⟨rfl, hsz, hP, hK, hD0, hZ⟩ := hv
  have hx := B.exec
  have hb := B.bytes
  have hr := B.returns
  have hts := atoms_spec (ws := wsX6_ahead) B.pre
  have hown : s.vm.findClass RX6 = some m.cls := findClass_of_methodNamed B.named
  have hlocks := B.notSynchronized
  subst hsz
  have hD := hD0.self (sz := s.heap.size)
  generalize hAe : va_A (W_X6_ahead cyI cyJ cyO) s.heap.size = A at hD hZ ⊢
  have hA : ∀ q : Nat, s.heap.size ≤ q → A q := fun q h => by rw [← hAe]; exact Or.inr h
  clear hAe hD0
  have hS : va_S A s.heap s.heap [] := va_S.rf
  have hl := lv_entry ([.int x1, .int x2, .int x3]) (n := 6) (Nat.le_of_ble_eq_true rfl)
  rw [lg_entry_eq]
  generalize (lg_sl ([.int x1, .int x2, .int x3]) ++ List.replicate (6 - (lg_sl ([.int x1, .int x2, .int x3])).length) Slot.unset).toArray = ls at hl ⊢
  have hl : lv_has ls 6 [(0, .int x1), (1, .int x2), (2, .int x3)] := hl
  refine kW (fun Q hQ => ?_)
  have hq0 := hts _ (List.mem_cons_of_mem _ q_419)
  have hq1 := hts _ (List.mem_cons_of_mem _ q_421)
  have hw := hf
  have w76 : ∀ (v3 : Int32) (v4 : Int32) (y0 : Int32) (H : Heap) (locs : List Loc), va_P (dC, dI) vwCl (W_X6_ahead cyI cyJ cyO) H → va_D A (W_X6_ahead cyI cyJ cyO) → va_S A s.heap H locs → ∀ (ls : Array Slot), lv_has ls 6 [(3, .int v3), (4, .int v4)] → okP (f_X6_ahead_B76 v3 v4 y0) post → W p l e (headSpec wsX6_ahead rm_X6_ahead).room s m ([.int x1, .int x2, .int x3] : List Value).toArray below meth c H locs 0 0 Q (F0 m 76 ls [.int y0]) := by
    intro v3 v4 y0 H locs hP hD hS ls hl hw
    unfold f_X6_ahead_B76 at hw
    refine lv_istore (lv' := [(5, .int y0), (3, .int v3), (4, .int v4)]) hx hb dX6_ahead_76 hl (by decide) rfl (fun ls hl => ?_)
    refine lv_iload hx hb dX6_ahead_78 (lv_at hl 0 rfl) ?_
    refine lv_if_eq (tgt := 93) hx hb dX6_ahead_80 (by decide) (fun c_1 => ?_) (fun c_1 => ?_)
    · replace hw := okT hw c_1
      clear c_1
      refine lv_iconst (v := (-1)) hx hb dX6_ahead_93 (by decide) ?_
      rw [hQ]
      exact W.iret (v := (-1)) hx hb hr (fun t ht hW => ⟨⟨(-1), (), rfl, okS hw, by rw [ht]; exact hP, va_K.moved hW.alike hK, hD⟩, hS.F ht⟩) hS.2.2 dX6_ahead_94
    · replace hw := okF hw c_1
      clear c_1
      refine lv_bipush (v := 10) hx hb dX6_ahead_83 (by decide) ?_
      refine lv_iload_n hx hb dX6_ahead_85 rfl (lv_at hl 1 rfl) ?_
      refine lv_imul hx hb dX6_ahead_86 ?_
      refine lv_iload hx hb dX6_ahead_87 (lv_at hl 2 rfl) ?_
      refine lv_iadd hx hb dX6_ahead_89 ?_
      refine lv_goto (tgt := 94) hx hb dX6_ahead_90 (by decide) ?_
      rw [hQ]
      exact W.iret (v := (10 * v3) + v4) hx hb hr (fun t ht hW => ⟨⟨(10 * v3) + v4, (), rfl, okS hw, by rw [ht]; exact hP, va_K.moved hW.alike hK, hD⟩, hS.F ht⟩) hS.2.2 dX6_ahead_94
  have w75 : ∀ (v3 : Int32) (v4 : Int32) (H : Heap) (locs : List Loc), va_P (dC, dI) vwCl (W_X6_ahead cyI cyJ cyO) H → va_D A (W_X6_ahead cyI cyJ cyO) → va_S A s.heap H locs → ∀ (ls : Array Slot), lv_has ls 6 [(3, .int v3), (4, .int v4)] → okP (f_X6_ahead_B75 v3 v4) post → W p l e (headSpec wsX6_ahead rm_X6_ahead).room s m ([.int x1, .int x2, .int x3] : List Value).toArray below meth c H locs 0 0 Q (F0 m 75 ls []) := by
    intro v3 v4 H locs hP hD hS ls hl hw
    unfold f_X6_ahead_B75 at hw
    refine lv_iconst (v := 0) hx hb dX6_ahead_75 (by decide) ?_
    exact w76 v3 v4 0 _ _ hP hD hS _ (lv_sub hl [0, 1] rfl) hw
  unfold f_X6_ahead at hw
  have hP : va_P (dC, dI) vwCl (W_X6_ahead cyI cyJ cyO) s.heap := hP
  obtain ⟨H, hH⟩ : ∃ H, H = s.heap := ⟨_, rfl⟩
  obtain ⟨locs, hlo⟩ : ∃ x : List Loc, x = [] := ⟨_, rfl⟩
  have hP : va_P (dC, dI) vwCl (W_X6_ahead cyI cyJ cyO) H := by rw [hH]; exact hP
  have hS : va_S A s.heap H locs := by rw [hH, hlo]; exact hS
  refine kH hH hlo ?_
  clear hH hlo
  refine lv_iload_n hx hb dX6_ahead_0 rfl (lv_at hl 0 rfl) ?_
  refine lv_if_lt (tgt := 20) hx hb dX6_ahead_1 (by decide) (fun c_2 => ?_) (fun c_2 => ?_)
  · replace hw := okT hw c_2
    clear c_2
    refine lv_iconst (v := (-1)) hx hb dX6_ahead_20 (by decide) ?_
    rw [hQ]
    exact W.iret (v := (-1)) hx hb hr (fun t ht hW => ⟨⟨(-1), (), rfl, okS hw, by rw [ht]; exact hP, va_K.moved hW.alike hK, hD⟩, hS.F ht⟩) hS.2.2 dX6_ahead_21
  · replace hw := okF hw c_2
    clear c_2
    refine lv_iload_n hx hb dX6_ahead_4 rfl (lv_at hl 0 rfl) ?_
    refine lv_bipush (v := 100) hx hb dX6_ahead_5 (by decide) ?_
    refine lv_icmp_ge (tgt := 20) hx hb dX6_ahead_7 (by decide) (fun c_3 => ?_) (fun c_3 => ?_)
    · replace hw := okT hw c_3
      clear c_3
      refine lv_iconst (v := (-1)) hx hb dX6_ahead_20 (by decide) ?_
      rw [hQ]
      exact W.iret (v := (-1)) hx hb hr (fun t ht hW => ⟨⟨(-1), (), rfl, okS hw, by rw [ht]; exact hP, va_K.moved hW.alike hK, hD⟩, hS.F ht⟩) hS.2.2 dX6_ahead_21
    · replace hw := okF hw c_3
      clear c_3
      refine lv_iload_n hx hb dX6_ahead_10 rfl (lv_at hl 1 rfl) ?_
      refine lv_if_lt (tgt := 20) hx hb dX6_ahead_11 (by decide) (fun c_4 => ?_) (fun c_4 => ?_)
      · replace hw := okT hw c_4
        clear c_4
        refine lv_iconst (v := (-1)) hx hb dX6_ahead_20 (by decide) ?_
        rw [hQ]
        exact W.iret (v := (-1)) hx hb hr (fun t ht hW => ⟨⟨(-1), (), rfl, okS hw, by rw [ht]; exact hP, va_K.moved hW.alike hK, hD⟩, hS.F ht⟩) hS.2.2 dX6_ahead_21
      · replace hw := okF hw c_4
        clear c_4
        refine lv_iload_n hx hb dX6_ahead_14 rfl (lv_at hl 1 rfl) ?_
        refine lv_bipush (v := 8) hx hb dX6_ahead_15 (by decide) ?_
        refine lv_icmp_lt (tgt := 22) hx hb dX6_ahead_17 (by decide) (fun c_5 => ?_) (fun c_5 => ?_)
        · replace hw := okT hw c_5
          clear c_5
          refine lv_iload_n hx hb dX6_ahead_22 rfl (lv_at hl 0 rfl) ?_
          refine lv_bipush (v := 10) hx hb dX6_ahead_23 (by decide) ?_
          refine lv_idiv hx hb dX6_ahead_25 (by decide) ?_
          refine lv_iload_n hx hb dX6_ahead_26 rfl (lv_at hl 2 rfl) ?_
          refine va_gets (v := .ref tD) hx hb hZ.1 hS hown hq0 (fun _ h9 => h9) dX6_ahead_27 ?_
          refine lv_iload_n hx hb dX6_ahead_30 rfl (lv_at hl 1 rfl) ?_
          obtain ⟨h_6, hw⟩ := okC hw
          refine va_ti (v := .int (tabD x2.toNatClampNeg)) hx hb hZ.2.1 hS h_6 rfl dX6_ahead_31 ?_
          refine lv_imul hx hb dX6_ahead_32 ?_
          refine lv_iadd hx hb dX6_ahead_33 ?_
          refine lv_topi (fun x_7 ex_7 => ?_)
          replace hw := okN ex_7 hw
          clear ex_7
          refine lv_istore_n (lv' := [(3, .int x_7), (0, .int x1), (1, .int x2), (2, .int x3)]) hx hb dX6_ahead_34 rfl hl (by decide) rfl (fun ls hl => ?_)
          refine lv_iload_n hx hb dX6_ahead_35 rfl (lv_at hl 1 rfl) ?_
          refine lv_bipush (v := 10) hx hb dX6_ahead_36 (by decide) ?_
          refine lv_irem hx hb dX6_ahead_38 (by decide) ?_
          refine lv_iload_n hx hb dX6_ahead_39 rfl (lv_at hl 3 rfl) ?_
          refine va_gets (v := .ref tR) hx hb hZ.2.2.1 hS hown hq1 (fun _ h9 => h9) dX6_ahead_40 ?_
          refine lv_iload_n hx hb dX6_ahead_43 rfl (lv_at hl 2 rfl) ?_
          obtain ⟨h_8, hw⟩ := okC hw
          refine va_ti (v := .int (tabR x2.toNatClampNeg)) hx hb hZ.2.2.2.1 hS h_8 rfl dX6_ahead_44 ?_
          refine lv_imul hx hb dX6_ahead_45 ?_
          refine lv_iadd hx hb dX6_ahead_46 ?_
          refine lv_topi (fun x_9 ex_9 => ?_)
          replace hw := okN ex_9 hw
          clear ex_9
          refine lv_istore (lv' := [(4, .int x_9), (3, .int x_7), (0, .int x1), (1, .int x2), (2, .int x3)]) hx hb dX6_ahead_47 hl (by decide) rfl (fun ls hl => ?_)
          refine lv_iload_n hx hb dX6_ahead_49 rfl (lv_at hl 1 rfl) ?_
          refine lv_if_lt (tgt := 75) hx hb dX6_ahead_50 (by decide) (fun c_10 => ?_) (fun c_10 => ?_)
          · replace hw := okT hw c_10
            clear c_10
            exact w75 x_7 x_9 _ _ hP hD hS _ (lv_sub hl [1, 0] rfl) hw
          · replace hw := okF hw c_10
            clear c_10
            refine lv_iload_n hx hb dX6_ahead_53 rfl (lv_at hl 1 rfl) ?_
            refine lv_bipush (v := 10) hx hb dX6_ahead_54 (by decide) ?_
            refine lv_icmp_ge (tgt := 75) hx hb dX6_ahead_56 (by decide) (fun c_11 => ?_) (fun c_11 => ?_)
            · replace hw := okT hw c_11
              clear c_11
              exact w75 x_7 x_9 _ _ hP hD hS _ (lv_sub hl [1, 0] rfl) hw
            · replace hw := okF hw c_11
              clear c_11
              refine lv_iload hx hb dX6_ahead_59 (lv_at hl 0 rfl) ?_
              refine lv_if_lt (tgt := 75) hx hb dX6_ahead_61 (by decide) (fun c_12 => ?_) (fun c_12 => ?_)
              · replace hw := okT hw c_12
                clear c_12
                exact w75 x_7 x_9 _ _ hP hD hS _ (lv_sub hl [1, 0] rfl) hw
              · replace hw := okF hw c_12
                clear c_12
                refine lv_iload hx hb dX6_ahead_64 (lv_at hl 0 rfl) ?_
                refine lv_bipush (v := 10) hx hb dX6_ahead_66 (by decide) ?_
                refine lv_icmp_ge (tgt := 75) hx hb dX6_ahead_68 (by decide) (fun c_13 => ?_) (fun c_13 => ?_)
                · replace hw := okT hw c_13
                  clear c_13
                  exact w75 x_7 x_9 _ _ hP hD hS _ (lv_sub hl [1, 0] rfl) hw
                · replace hw := okF hw c_13
                  clear c_13
                  refine lv_iconst (v := 1) hx hb dX6_ahead_71 (by decide) ?_
                  refine lv_goto (tgt := 76) hx hb dX6_ahead_72 (by decide) ?_
                  exact w76 x_7 x_9 1 _ _ hP hD hS _ (lv_sub hl [1, 0] rfl) hw
        · replace hw := okF hw c_5
          clear c_5
          refine lv_iconst (v := (-1)) hx hb dX6_ahead_20 (by decide) ?_
          rw [hQ]
          exact W.iret (v := (-1)) hx hb hr (fun t ht hW => ⟨⟨(-1), (), rfl, okS hw, by rw [ht]; exact hP, va_K.moved hW.alike hK, hD⟩, hS.F ht⟩) hS.2.2 dX6_ahead_21
/-! ===== X6_howManyAbove ===== -/
theorem dX6_howManyAbove_0 : decode cX6_howManyAbove 0 = .ok (.iconst 0, 1) := by decide +kernel
theorem dX6_howManyAbove_1 : decode cX6_howManyAbove 1 = .ok (.istore_n 2, 1) := by decide +kernel
theorem dX6_howManyAbove_2 : decode cX6_howManyAbove 2 = .ok (.aload_n 0, 1) := by decide +kernel
theorem dX6_howManyAbove_3 : decode cX6_howManyAbove 3 = .ok (.astore_n 3, 1) := by decide +kernel
theorem dX6_howManyAbove_4 : decode cX6_howManyAbove 4 = .ok (.aload_n 3, 1) := by decide +kernel
theorem dX6_howManyAbove_5 : decode cX6_howManyAbove 5 = .ok (.arraylength, 1) := by decide +kernel
theorem dX6_howManyAbove_6 : decode cX6_howManyAbove 6 = .ok (.istore 4, 2) := by decide +kernel
theorem dX6_howManyAbove_8 : decode cX6_howManyAbove 8 = .ok (.iconst 0, 1) := by decide +kernel
theorem dX6_howManyAbove_9 : decode cX6_howManyAbove 9 = .ok (.istore 5, 2) := by decide +kernel
theorem dX6_howManyAbove_11 : decode cX6_howManyAbove 11 = .ok (.iload 5, 2) := by decide +kernel
theorem dX6_howManyAbove_13 : decode cX6_howManyAbove 13 = .ok (.iload 4, 2) := by decide +kernel
theorem dX6_howManyAbove_15 : decode cX6_howManyAbove 15 = .ok (.if_icmp .ge 29, 3) := by decide +kernel
theorem dX6_howManyAbove_18 : decode cX6_howManyAbove 18 = .ok (.aload_n 3, 1) := by decide +kernel
theorem dX6_howManyAbove_19 : decode cX6_howManyAbove 19 = .ok (.iload 5, 2) := by decide +kernel
theorem dX6_howManyAbove_21 : decode cX6_howManyAbove 21 = .ok (.iaload, 1) := by decide +kernel
theorem dX6_howManyAbove_22 : decode cX6_howManyAbove 22 = .ok (.istore 6, 2) := by decide +kernel
theorem dX6_howManyAbove_24 : decode cX6_howManyAbove 24 = .ok (.iload_n 2, 1) := by decide +kernel
theorem dX6_howManyAbove_25 : decode cX6_howManyAbove 25 = .ok (.iload 6, 2) := by decide +kernel
theorem dX6_howManyAbove_27 : decode cX6_howManyAbove 27 = .ok (.iload_n 1, 1) := by decide +kernel
theorem dX6_howManyAbove_28 : decode cX6_howManyAbove 28 = .ok (.if_icmp .le 7, 3) := by decide +kernel
theorem dX6_howManyAbove_31 : decode cX6_howManyAbove 31 = .ok (.iconst 1, 1) := by decide +kernel
theorem dX6_howManyAbove_32 : decode cX6_howManyAbove 32 = .ok (.goto 4, 3) := by decide +kernel
theorem dX6_howManyAbove_35 : decode cX6_howManyAbove 35 = .ok (.iconst 0, 1) := by decide +kernel
theorem dX6_howManyAbove_36 : decode cX6_howManyAbove 36 = .ok (.iadd, 1) := by decide +kernel
theorem dX6_howManyAbove_37 : decode cX6_howManyAbove 37 = .ok (.istore_n 2, 1) := by decide +kernel
theorem dX6_howManyAbove_38 : decode cX6_howManyAbove 38 = .ok (.iinc 5 1, 3) := by decide +kernel
theorem dX6_howManyAbove_41 : decode cX6_howManyAbove 41 = .ok (.goto (-30), 3) := by decide +kernel
theorem dX6_howManyAbove_44 : decode cX6_howManyAbove 44 = .ok (.iload_n 2, 1) := by decide +kernel
theorem dX6_howManyAbove_45 : decode cX6_howManyAbove 45 = .ok (.ireturn, 1) := by decide +kernel
abbrev W_X6_howManyAbove (cyI cyJ cyO : ClassId) (n_p1 : Nat) (a_p1 : Nat) (p1_arr : Nat → Int32) : va_W := [(a_p1, .inl (cyI, n_p1, .inl p1_arr))]
def f_X6_howManyAbove_B36 (n_p1 : Nat) (k11 : Int32 → Int32 → Int32 → Int32 → (Nat → Int32) → Option (Int32)) (v1 : Int32) (v4 : Int32) (v5 : Int32) (y0 : Int32) (y1 : Int32) (p1_arr : Nat → Int32) : Option (Int32) :=
  nm (y1 + y0) fun x_1 =>
  nm (v5 + 1) fun x_2 =>
  k11 v1 x_1 v4 x_2 p1_arr
def f_X6_howManyAbove_L11b (n_p1 : Nat) (k11 : Int32 → Int32 → Int32 → Int32 → (Nat → Int32) → Option (Int32)) (v1 : Int32) (v2 : Int32) (v4 : Int32) (v5 : Int32) (p1_arr : Nat → Int32) : Option (Int32) :=
  if v4 ≤ v5 then
    some v2
  else
    chk (¬ (v5 < 0 ∨ n_p1 ≤ v5.toNatClampNeg)) <|
    nm (p1_arr v5.toNatClampNeg) fun x_3 =>
    if x_3 ≤ v1 then
      f_X6_howManyAbove_B36 n_p1 k11 v1 v4 v5 0 v2 p1_arr
    else
      f_X6_howManyAbove_B36 n_p1 k11 v1 v4 v5 1 v2 p1_arr
def f_X6_howManyAbove_L11 (n_p1 : Nat) : Nat → Int32 → Int32 → Int32 → Int32 → (Nat → Int32) → Option (Int32)
  | 0 => fun _ _ _ _ _ => none
  | n + 1 => f_X6_howManyAbove_L11b n_p1 (f_X6_howManyAbove_L11 n_p1 n)
def f_X6_howManyAbove (n_p1 : Nat) (x2 : Int32) (p1_arr : Nat → Int32) : Option (Int32) :=
  nm (Int32.ofNat n_p1) fun x_4 =>
  f_X6_howManyAbove_L11 n_p1 FU x2 0 x_4 0 p1_arr
abbrev rm_X6_howManyAbove : Room := { frames := 0, cells := 0, slots := 0, locals := 0 }
set_option maxRecDepth 100000 in
set_option maxHeartbeats 4000000 in
theorem c_X6_howManyAbove (l : Launch) (dC : Nat → ClassId) (dI : Nat → Nat → Nat) (cyI cyJ cyO : ClassId) (sz : Nat) (n_p1 : Nat) (a_p1 : Nat) (p1_arr : Nat → Int32) (x2 : Int32) (post : Int32 → Prop) (hf : okP (f_X6_howManyAbove n_p1 x2 p1_arr) post) : Ci l (dC, dI) (tyL cyI cyJ cyO) yX6_howManyAbove wsX6_howManyAbove rm_X6_howManyAbove [.ref a_p1, .int x2] sz (W_X6_howManyAbove cyI cyJ cyO n_p1 a_p1 p1_arr) zN (fun r (_ : Unit) => post r) (fun _ => (W_X6_howManyAbove cyI cyJ cyO n_p1 a_p1 p1_arr)) := by
  refine Met.ofW (cc := cX6_howManyAbove) (maxL := 7) (ret := (some .int)) (by decide) rfl ?_
  intro p e s m args below meth c s₁ B hml hv
  obtain ⟨rfl, hsz, hP, hK, hD0, hZ⟩ := hv
  have hx := B.exec
  have hb := B.bytes
  have hr := B.returns
  have hts := atoms_spec (ws := wsX6_howManyAbove) B.pre
  have hown : s.vm.findClass RX6 = some m.cls := findClass_of_methodNamed B.named
  have hlocks := B.notSynchronized
  subst hsz
  have hD := hD0.self (sz := s.heap.size)
  generalize hAe : va_A (W_X6_howManyAbove cyI cyJ cyO n_p1 a_p1 p1_arr) s.heap.size = A at hD hZ ⊢
  have hA : ∀ q : Nat, s.heap.size ≤ q → A q := fun q h => by rw [← hAe]; exact Or.inr h
  clear hAe hD0
  have hS : va_S A s.heap s.heap [] := va_S.rf
  have hl := lv_entry ([.ref a_p1, .int x2]) (n := 7) (Nat.le_of_ble_eq_true rfl)
  rw [lg_entry_eq]
  generalize (lg_sl ([.ref a_p1, .int x2]) ++ List.replicate (7 - (lg_sl ([.ref a_p1, .int x2])).length) Slot.unset).toArray = ls at hl ⊢
  have hl : lv_has ls 7 [(0, .ref a_p1), (1, .int x2)] := hl
  refine kW (fun Q hQ => ?_)
  have hw := hf
  have w11 : ∀ (n : Nat), ∀ (v1 : Int32) (v2 : Int32) (v4 : Int32) (v5 : Int32) (H : Heap) (locs : List Loc), va_P (dC, dI) vwCl (W_X6_howManyAbove cyI cyJ cyO n_p1 a_p1 p1_arr) H → va_D A (W_X6_howManyAbove cyI cyJ cyO n_p1 a_p1 p1_arr) → va_S A s.heap H locs → ∀ (ls : Array Slot), lv_has ls 7 [(1, .int v1), (2, .int v2), (3, .ref a_p1), (4, .int v4), (5, .int v5)] → okP (f_X6_howManyAbove_L11 n_p1 n v1 v2 v4 v5 p1_arr) post → W p l e (headSpec wsX6_howManyAbove rm_X6_howManyAbove).room s m ([.ref a_p1, .int x2] : List Value).toArray below meth c H locs 0 0 Q (F0 m 11 ls []) := by
    intro n
    induction n with
    | zero =>
      intro v1 v2 v4 v5 H locs hP hD hS ls hl hw
      exact (ok0 hw).elim
    | succ n11 ih11 =>
      have w36 : ∀ (v1 : Int32) (v4 : Int32) (v5 : Int32) (y0 : Int32) (y1 : Int32) (H : Heap) (locs : List Loc), va_P (dC, dI) vwCl (W_X6_howManyAbove cyI cyJ cyO n_p1 a_p1 p1_arr) H → va_D A (W_X6_howManyAbove cyI cyJ cyO n_p1 a_p1 p1_arr) → va_S A s.heap H locs → ∀ (ls : Array Slot), lv_has ls 7 [(1, .int v1), (3, .ref a_p1), (4, .int v4), (5, .int v5)] → okP (f_X6_howManyAbove_B36 n_p1 (f_X6_howManyAbove_L11 n_p1 n11) v1 v4 v5 y0 y1 p1_arr) post → W p l e (headSpec wsX6_howManyAbove rm_X6_howManyAbove).room s m ([.ref a_p1, .int x2] : List Value).toArray below meth c H locs 0 0 Q (F0 m 36 ls [.int y0, .int y1]) := by
        intro v1 v4 v5 y0 y1 H locs hP hD hS ls hl hw
        unfold f_X6_howManyAbove_B36 at hw
        refine lv_iadd hx hb dX6_howManyAbove_36 ?_
        refine lv_topi (fun x_1 ex_1 => ?_)
        replace hw := okN ex_1 hw
        clear ex_1
        refine lv_istore_n (lv' := [(2, .int x_1), (1, .int v1), (3, .ref a_p1), (4, .int v4), (5, .int v5)]) hx hb dX6_howManyAbove_37 rfl hl (by decide) rfl (fun ls hl => ?_)
        obtain ⟨x_2, ex_2⟩ : ∃ y : Int32, y = v5 + 1 := ⟨_, rfl⟩
        replace hw := okN ex_2 hw
        refine lv_iinc (v := x_2) (lv' := [(5, .int x_2), (2, .int x_1), (1, .int v1), (3, .ref a_p1), (4, .int v4)]) hx hb dX6_howManyAbove_38 hl (k := 4) rfl (by rw [ex_2]; rfl) (by decide) rfl (fun ls hl => ?_)
        clear ex_2
        refine lv_goto (tgt := 11) hx hb dX6_howManyAbove_41 (by decide) ?_
        exact ih11 v1 x_1 v4 x_2 _ _ hP hD hS _ (lv_sub hl [2, 1, 3, 4, 0] rfl) hw
      intro v1 v2 v4 v5 H locs hP hD hS ls hl hw
      replace hw : okP (f_X6_howManyAbove_L11b n_p1 (f_X6_howManyAbove_L11 n_p1 n11) v1 v2 v4 v5 p1_arr) post := hw
      unfold f_X6_howManyAbove_L11b at hw
      refine lv_iload hx hb dX6_howManyAbove_11 (lv_at hl 4 rfl) ?_
      refine lv_iload hx hb dX6_howManyAbove_13 (lv_at hl 3 rfl) ?_
      refine lv_icmp_ge (tgt := 44) hx hb dX6_howManyAbove_15 (by decide) (fun c_3 => ?_) (fun c_3 => ?_)
      · replace hw := okT hw c_3
        clear c_3
        refine lv_iload_n hx hb dX6_howManyAbove_44 rfl (lv_at hl 1 rfl) ?_
        rw [hQ]
        exact W.iret (v := v2) hx hb hr (fun t ht hW => ⟨⟨v2, (), rfl, okS hw, by rw [ht]; exact hP, va_K.moved hW.alike hK, hD⟩, hS.F ht⟩) hS.2.2 dX6_howManyAbove_45
      · replace hw := okF hw c_3
        clear c_3
        refine lv_aload_n hx hb dX6_howManyAbove_18 rfl (lv_at hl 2 rfl) ?_
        refine lv_iload hx hb dX6_howManyAbove_19 (lv_at hl 4 rfl) ?_
        obtain ⟨h_4, hw⟩ := okC hw
        refine va_iald (i := v5) hx hb hK hP 0 0 rfl rfl h_4 dX6_howManyAbove_21 ?_
        refine lv_topi (fun x_5 ex_5 => ?_)
        replace hw := okN ex_5 hw
        clear ex_5
        refine lv_istore (lv' := [(6, .int x_5), (1, .int v1), (2, .int v2), (3, .ref a_p1), (4, .int v4), (5, .int v5)]) hx hb dX6_howManyAbove_22 hl (by decide) rfl (fun ls hl => ?_)
        refine lv_iload_n hx hb dX6_howManyAbove_24 rfl (lv_at hl 2 rfl) ?_
        refine lv_iload hx hb dX6_howManyAbove_25 (lv_at hl 0 rfl) ?_
        refine lv_iload_n hx hb dX6_howManyAbove_27 rfl (lv_at hl 1 rfl) ?_
        refine lv_icmp_le (tgt := 35) hx hb dX6_howManyAbove_28 (by decide) (fun c_6 => ?_) (fun c_6 => ?_)
        · replace hw := okT hw c_6
          clear c_6
          refine lv_iconst (v := 0) hx hb dX6_howManyAbove_35 (by decide) ?_
          exact w36 v1 v4 v5 0 v2 _ _ hP hD hS _ (lv_sub hl [1, 3, 4, 5] rfl) hw
        · replace hw := okF hw c_6
          clear c_6
          refine lv_iconst (v := 1) hx hb dX6_howManyAbove_31 (by decide) ?_
          refine lv_goto (tgt := 36) hx hb dX6_howManyAbove_32 (by decide) ?_
          exact w36 v1 v4 v5 1 v2 _ _ hP hD hS _ (lv_sub hl [1, 3, 4, 5] rfl) hw
  unfold f_X6_howManyAbove at hw
  have hP : va_P (dC, dI) vwCl (W_X6_howManyAbove cyI cyJ cyO n_p1 a_p1 p1_arr) s.heap := hP
  obtain ⟨H, hH⟩ : ∃ H, H = s.heap := ⟨_, rfl⟩
  obtain ⟨locs, hlo⟩ : ∃ x : List Loc, x = [] := ⟨_, rfl⟩
  have hP : va_P (dC, dI) vwCl (W_X6_howManyAbove cyI cyJ cyO n_p1 a_p1 p1_arr) H := by rw [hH]; exact hP
  have hS : va_S A s.heap H locs := by rw [hH, hlo]; exact hS
  refine kH hH hlo ?_
  clear hH hlo
  refine lv_iconst (v := 0) hx hb dX6_howManyAbove_0 (by decide) ?_
  refine lv_istore_n (lv' := [(2, .int 0), (0, .ref a_p1), (1, .int x2)]) hx hb dX6_howManyAbove_1 rfl hl (by decide) rfl (fun ls hl => ?_)
  refine lv_aload_n hx hb dX6_howManyAbove_2 rfl (lv_at hl 1 rfl) ?_
  refine lv_astore_n (lv' := [(3, .ref a_p1), (2, .int 0), (0, .ref a_p1), (1, .int x2)]) hx hb dX6_howManyAbove_3 rfl hl (by decide) rfl (fun ls hl => ?_)
  refine lv_aload_n hx hb dX6_howManyAbove_4 rfl (lv_at hl 0 rfl) ?_
  refine va_alen (v := Int32.ofNat n_p1) hx hb hK hP 0 0 rfl rfl rfl dX6_howManyAbove_5 ?_
  refine lv_topi (fun x_7 ex_7 => ?_)
  replace hw := okN ex_7 hw
  clear ex_7
  refine lv_istore (lv' := [(4, .int x_7), (3, .ref a_p1), (2, .int 0), (0, .ref a_p1), (1, .int x2)]) hx hb dX6_howManyAbove_6 hl (by decide) rfl (fun ls hl => ?_)
  refine lv_iconst (v := 0) hx hb dX6_howManyAbove_8 (by decide) ?_
  refine lv_istore (lv' := [(5, .int 0), (4, .int x_7), (3, .ref a_p1), (2, .int 0), (0, .ref a_p1), (1, .int x2)]) hx hb dX6_howManyAbove_9 hl (by decide) rfl (fun ls hl => ?_)
  exact w11 FU x2 0 x_7 0 _ _ hP hD hS _ (lv_sub hl [5, 3, 2, 1, 0] rfl) hw
/-! ===== X6_howManyGreater ===== -/
theorem dX6_howManyGreater_0 : decode cX6_howManyGreater 0 = .ok (.iconst 0, 1) := by decide +kernel
theorem dX6_howManyGreater_1 : decode cX6_howManyGreater 1 = .ok (.istore_n 3, 1) := by decide +kernel
theorem dX6_howManyGreater_2 : decode cX6_howManyGreater 2 = .ok (.aload_n 0, 1) := by decide +kernel
theorem dX6_howManyGreater_3 : decode cX6_howManyGreater 3 = .ok (.astore 4, 2) := by decide +kernel
theorem dX6_howManyGreater_5 : decode cX6_howManyGreater 5 = .ok (.aload 4, 2) := by decide +kernel
theorem dX6_howManyGreater_7 : decode cX6_howManyGreater 7 = .ok (.arraylength, 1) := by decide +kernel
theorem dX6_howManyGreater_8 : decode cX6_howManyGreater 8 = .ok (.istore 5, 2) := by decide +kernel
theorem dX6_howManyGreater_10 : decode cX6_howManyGreater 10 = .ok (.iconst 0, 1) := by decide +kernel
theorem dX6_howManyGreater_11 : decode cX6_howManyGreater 11 = .ok (.istore 6, 2) := by decide +kernel
theorem dX6_howManyGreater_13 : decode cX6_howManyGreater 13 = .ok (.iload 6, 2) := by decide +kernel
theorem dX6_howManyGreater_15 : decode cX6_howManyGreater 15 = .ok (.iload 5, 2) := by decide +kernel
theorem dX6_howManyGreater_17 : decode cX6_howManyGreater 17 = .ok (.if_icmp .ge 31, 3) := by decide +kernel
theorem dX6_howManyGreater_20 : decode cX6_howManyGreater 20 = .ok (.aload 4, 2) := by decide +kernel
theorem dX6_howManyGreater_22 : decode cX6_howManyGreater 22 = .ok (.iload 6, 2) := by decide +kernel
theorem dX6_howManyGreater_24 : decode cX6_howManyGreater 24 = .ok (.laload, 1) := by decide +kernel
theorem dX6_howManyGreater_25 : decode cX6_howManyGreater 25 = .ok (.lstore 7, 2) := by decide +kernel
theorem dX6_howManyGreater_27 : decode cX6_howManyGreater 27 = .ok (.iload_n 3, 1) := by decide +kernel
theorem dX6_howManyGreater_28 : decode cX6_howManyGreater 28 = .ok (.lload 7, 2) := by decide +kernel
theorem dX6_howManyGreater_30 : decode cX6_howManyGreater 30 = .ok (.lload_n 1, 1) := by decide +kernel
theorem dX6_howManyGreater_31 : decode cX6_howManyGreater 31 = .ok (.lcmp, 1) := by decide +kernel
theorem dX6_howManyGreater_32 : decode cX6_howManyGreater 32 = .ok (.ifCond .le 7, 3) := by decide +kernel
theorem dX6_howManyGreater_35 : decode cX6_howManyGreater 35 = .ok (.iconst 1, 1) := by decide +kernel
theorem dX6_howManyGreater_36 : decode cX6_howManyGreater 36 = .ok (.goto 4, 3) := by decide +kernel
theorem dX6_howManyGreater_39 : decode cX6_howManyGreater 39 = .ok (.iconst 0, 1) := by decide +kernel
theorem dX6_howManyGreater_40 : decode cX6_howManyGreater 40 = .ok (.iadd, 1) := by decide +kernel
theorem dX6_howManyGreater_41 : decode cX6_howManyGreater 41 = .ok (.istore_n 3, 1) := by decide +kernel
theorem dX6_howManyGreater_42 : decode cX6_howManyGreater 42 = .ok (.iinc 6 1, 3) := by decide +kernel
theorem dX6_howManyGreater_45 : decode cX6_howManyGreater 45 = .ok (.goto (-32), 3) := by decide +kernel
theorem dX6_howManyGreater_48 : decode cX6_howManyGreater 48 = .ok (.iload_n 3, 1) := by decide +kernel
theorem dX6_howManyGreater_49 : decode cX6_howManyGreater 49 = .ok (.ireturn, 1) := by decide +kernel
abbrev W_X6_howManyGreater (cyI cyJ cyO : ClassId) (n_p1 : Nat) (a_p1 : Nat) (p1_arr : Nat → Int64) : va_W := [(a_p1, .inl (cyJ, n_p1, .inr (.inl p1_arr)))]
def f_X6_howManyGreater_B40 (n_p1 : Nat) (k13 : Int64 → Int32 → Int32 → Int32 → (Nat → Int64) → Option (Int32)) (v1 : Int64) (v5 : Int32) (v6 : Int32) (y0 : Int32) (y1 : Int32) (p1_arr : Nat → Int64) : Option (Int32) :=
  nm (y1 + y0) fun x_1 =>
  nm (v6 + 1) fun x_2 =>
  k13 v1 x_1 v5 x_2 p1_arr
def f_X6_howManyGreater_L13b (n_p1 : Nat) (k13 : Int64 → Int32 → Int32 → Int32 → (Nat → Int64) → Option (Int32)) (v1 : Int64) (v3 : Int32) (v5 : Int32) (v6 : Int32) (p1_arr : Nat → Int64) : Option (Int32) :=
  if v5 ≤ v6 then
    some v3
  else
    chk (¬ (v6 < 0 ∨ n_p1 ≤ v6.toNatClampNeg)) <|
    nm (p1_arr v6.toNatClampNeg) fun x_3 =>
    if (lg_cmp x_3 v1) ≤ 0 then
      f_X6_howManyGreater_B40 n_p1 k13 v1 v5 v6 0 v3 p1_arr
    else
      f_X6_howManyGreater_B40 n_p1 k13 v1 v5 v6 1 v3 p1_arr
def f_X6_howManyGreater_L13 (n_p1 : Nat) : Nat → Int64 → Int32 → Int32 → Int32 → (Nat → Int64) → Option (Int32)
  | 0 => fun _ _ _ _ _ => none
  | n + 1 => f_X6_howManyGreater_L13b n_p1 (f_X6_howManyGreater_L13 n_p1 n)
def f_X6_howManyGreater (n_p1 : Nat) (x2 : Int64) (p1_arr : Nat → Int64) : Option (Int32) :=
  nm (Int32.ofNat n_p1) fun x_4 =>
  f_X6_howManyGreater_L13 n_p1 FU x2 0 x_4 0 p1_arr
abbrev rm_X6_howManyGreater : Room := { frames := 0, cells := 0, slots := 0, locals := 0 }
set_option maxRecDepth 100000 in
set_option maxHeartbeats 4000000 in
theorem c_X6_howManyGreater (l : Launch) (dC : Nat → ClassId) (dI : Nat → Nat → Nat) (cyI cyJ cyO : ClassId) (sz : Nat) (n_p1 : Nat) (a_p1 : Nat) (p1_arr : Nat → Int64) (x2 : Int64) (post : Int32 → Prop) (hf : okP (f_X6_howManyGreater n_p1 x2 p1_arr) post) : Ci l (dC, dI) (tyL cyI cyJ cyO) yX6_howManyGreater wsX6_howManyGreater rm_X6_howManyGreater [.ref a_p1, .long x2] sz (W_X6_howManyGreater cyI cyJ cyO n_p1 a_p1 p1_arr) zN (fun r (_ : Unit) => post r) (fun _ => (W_X6_howManyGreater cyI cyJ cyO n_p1 a_p1 p1_arr)) := by
  refine Met.ofW (cc := cX6_howManyGreater) (maxL := 9) (ret := (some .int)) (by decide) rfl ?_
  intro p e s m args below meth c s₁ B hml hv
  obtain ⟨rfl, hsz, hP, hK, hD0, hZ⟩ := hv
  have hx := B.exec
  have hb := B.bytes
  have hr := B.returns
  have hts := atoms_spec (ws := wsX6_howManyGreater) B.pre
  have hown : s.vm.findClass RX6 = some m.cls := findClass_of_methodNamed B.named
  have hlocks := B.notSynchronized
  subst hsz
  have hD := hD0.self (sz := s.heap.size)
  generalize hAe : va_A (W_X6_howManyGreater cyI cyJ cyO n_p1 a_p1 p1_arr) s.heap.size = A at hD hZ ⊢
  have hA : ∀ q : Nat, s.heap.size ≤ q → A q := fun q h => by rw [← hAe]; exact Or.inr h
  clear hAe hD0
  have hS : va_S A s.heap s.heap [] := va_S.rf
  have hl := lv_entry ([.ref a_p1, .long x2]) (n := 9) (Nat.le_of_ble_eq_true rfl)
  rw [lg_entry_eq]
  generalize (lg_sl ([.ref a_p1, .long x2]) ++ List.replicate (9 - (lg_sl ([.ref a_p1, .long x2])).length) Slot.unset).toArray = ls at hl ⊢
  have hl : lv_has ls 9 [(0, .ref a_p1), (1, .long x2)] := hl
  refine kW (fun Q hQ => ?_)
  have hw := hf
  have w13 : ∀ (n : Nat), ∀ (v1 : Int64) (v3 : Int32) (v5 : Int32) (v6 : Int32) (H : Heap) (locs : List Loc), va_P (dC, dI) vwCl (W_X6_howManyGreater cyI cyJ cyO n_p1 a_p1 p1_arr) H → va_D A (W_X6_howManyGreater cyI cyJ cyO n_p1 a_p1 p1_arr) → va_S A s.heap H locs → ∀ (ls : Array Slot), lv_has ls 9 [(1, .long v1), (3, .int v3), (4, .ref a_p1), (5, .int v5), (6, .int v6)] → okP (f_X6_howManyGreater_L13 n_p1 n v1 v3 v5 v6 p1_arr) post → W p l e (headSpec wsX6_howManyGreater rm_X6_howManyGreater).room s m ([.ref a_p1, .long x2] : List Value).toArray below meth c H locs 0 0 Q (F0 m 13 ls []) := by
    intro n
    induction n with
    | zero =>
      intro v1 v3 v5 v6 H locs hP hD hS ls hl hw
      exact (ok0 hw).elim
    | succ n13 ih13 =>
      have w40 : ∀ (v1 : Int64) (v5 : Int32) (v6 : Int32) (y0 : Int32) (y1 : Int32) (H : Heap) (locs : List Loc), va_P (dC, dI) vwCl (W_X6_howManyGreater cyI cyJ cyO n_p1 a_p1 p1_arr) H → va_D A (W_X6_howManyGreater cyI cyJ cyO n_p1 a_p1 p1_arr) → va_S A s.heap H locs → ∀ (ls : Array Slot), lv_has ls 9 [(1, .long v1), (4, .ref a_p1), (5, .int v5), (6, .int v6)] → okP (f_X6_howManyGreater_B40 n_p1 (f_X6_howManyGreater_L13 n_p1 n13) v1 v5 v6 y0 y1 p1_arr) post → W p l e (headSpec wsX6_howManyGreater rm_X6_howManyGreater).room s m ([.ref a_p1, .long x2] : List Value).toArray below meth c H locs 0 0 Q (F0 m 40 ls [.int y0, .int y1]) := by
        intro v1 v5 v6 y0 y1 H locs hP hD hS ls hl hw
        unfold f_X6_howManyGreater_B40 at hw
        refine lv_iadd hx hb dX6_howManyGreater_40 ?_
        refine lv_topi (fun x_1 ex_1 => ?_)
        replace hw := okN ex_1 hw
        clear ex_1
        refine lv_istore_n (lv' := [(3, .int x_1), (1, .long v1), (4, .ref a_p1), (5, .int v5), (6, .int v6)]) hx hb dX6_howManyGreater_41 rfl hl (by decide) rfl (fun ls hl => ?_)
        obtain ⟨x_2, ex_2⟩ : ∃ y : Int32, y = v6 + 1 := ⟨_, rfl⟩
        replace hw := okN ex_2 hw
        refine lv_iinc (v := x_2) (lv' := [(6, .int x_2), (3, .int x_1), (1, .long v1), (4, .ref a_p1), (5, .int v5)]) hx hb dX6_howManyGreater_42 hl (k := 4) rfl (by rw [ex_2]; rfl) (by decide) rfl (fun ls hl => ?_)
        clear ex_2
        refine lv_goto (tgt := 13) hx hb dX6_howManyGreater_45 (by decide) ?_
        exact ih13 v1 x_1 v5 x_2 _ _ hP hD hS _ (lv_sub hl [2, 1, 3, 4, 0] rfl) hw
      intro v1 v3 v5 v6 H locs hP hD hS ls hl hw
      replace hw : okP (f_X6_howManyGreater_L13b n_p1 (f_X6_howManyGreater_L13 n_p1 n13) v1 v3 v5 v6 p1_arr) post := hw
      unfold f_X6_howManyGreater_L13b at hw
      refine lv_iload hx hb dX6_howManyGreater_13 (lv_at hl 4 rfl) ?_
      refine lv_iload hx hb dX6_howManyGreater_15 (lv_at hl 3 rfl) ?_
      refine lv_icmp_ge (tgt := 48) hx hb dX6_howManyGreater_17 (by decide) (fun c_3 => ?_) (fun c_3 => ?_)
      · replace hw := okT hw c_3
        clear c_3
        refine lv_iload_n hx hb dX6_howManyGreater_48 rfl (lv_at hl 1 rfl) ?_
        rw [hQ]
        exact W.iret (v := v3) hx hb hr (fun t ht hW => ⟨⟨v3, (), rfl, okS hw, by rw [ht]; exact hP, va_K.moved hW.alike hK, hD⟩, hS.F ht⟩) hS.2.2 dX6_howManyGreater_49
      · replace hw := okF hw c_3
        clear c_3
        refine lv_aload hx hb dX6_howManyGreater_20 (lv_at hl 2 rfl) ?_
        refine lv_iload hx hb dX6_howManyGreater_22 (lv_at hl 4 rfl) ?_
        obtain ⟨h_4, hw⟩ := okC hw
        refine va_lald (i := v6) hx hb hK hP 0 1 rfl rfl h_4 dX6_howManyGreater_24 ?_
        refine lv_topl (fun x_5 ex_5 => ?_)
        replace hw := okN ex_5 hw
        clear ex_5
        refine lv_lstore (lv' := [(7, .long x_5), (1, .long v1), (3, .int v3), (4, .ref a_p1), (5, .int v5), (6, .int v6)]) hx hb dX6_howManyGreater_25 hl (by decide) rfl (fun ls hl => ?_)
        refine lv_iload_n hx hb dX6_howManyGreater_27 rfl (lv_at hl 2 rfl) ?_
        refine lv_lload hx hb dX6_howManyGreater_28 (lv_at hl 0 rfl) ?_
        refine lv_lload_n hx hb dX6_howManyGreater_30 rfl (lv_at hl 1 rfl) ?_
        refine W.lcmp hx hb dX6_howManyGreater_31 ?_
        refine lv_if_le (tgt := 39) hx hb dX6_howManyGreater_32 (by decide) (fun c_6 => ?_) (fun c_6 => ?_)
        · replace hw := okT hw c_6
          clear c_6
          refine lv_iconst (v := 0) hx hb dX6_howManyGreater_39 (by decide) ?_
          exact w40 v1 v5 v6 0 v3 _ _ hP hD hS _ (lv_sub hl [1, 3, 4, 5] rfl) hw
        · replace hw := okF hw c_6
          clear c_6
          refine lv_iconst (v := 1) hx hb dX6_howManyGreater_35 (by decide) ?_
          refine lv_goto (tgt := 40) hx hb dX6_howManyGreater_36 (by decide) ?_
          exact w40 v1 v5 v6 1 v3 _ _ hP hD hS _ (lv_sub hl [1, 3, 4, 5] rfl) hw
  unfold f_X6_howManyGreater at hw
  have hP : va_P (dC, dI) vwCl (W_X6_howManyGreater cyI cyJ cyO n_p1 a_p1 p1_arr) s.heap := hP
  obtain ⟨H, hH⟩ : ∃ H, H = s.heap := ⟨_, rfl⟩
  obtain ⟨locs, hlo⟩ : ∃ x : List Loc, x = [] := ⟨_, rfl⟩
  have hP : va_P (dC, dI) vwCl (W_X6_howManyGreater cyI cyJ cyO n_p1 a_p1 p1_arr) H := by rw [hH]; exact hP
  have hS : va_S A s.heap H locs := by rw [hH, hlo]; exact hS
  refine kH hH hlo ?_
  clear hH hlo
  refine lv_iconst (v := 0) hx hb dX6_howManyGreater_0 (by decide) ?_
  refine lv_istore_n (lv' := [(3, .int 0), (0, .ref a_p1), (1, .long x2)]) hx hb dX6_howManyGreater_1 rfl hl (by decide) rfl (fun ls hl => ?_)
  refine lv_aload_n hx hb dX6_howManyGreater_2 rfl (lv_at hl 1 rfl) ?_
  refine lv_astore (lv' := [(4, .ref a_p1), (3, .int 0), (0, .ref a_p1), (1, .long x2)]) hx hb dX6_howManyGreater_3 hl (by decide) rfl (fun ls hl => ?_)
  refine lv_aload hx hb dX6_howManyGreater_5 (lv_at hl 0 rfl) ?_
  refine va_alen (v := Int32.ofNat n_p1) hx hb hK hP 0 1 rfl rfl rfl dX6_howManyGreater_7 ?_
  refine lv_topi (fun x_7 ex_7 => ?_)
  replace hw := okN ex_7 hw
  clear ex_7
  refine lv_istore (lv' := [(5, .int x_7), (4, .ref a_p1), (3, .int 0), (0, .ref a_p1), (1, .long x2)]) hx hb dX6_howManyGreater_8 hl (by decide) rfl (fun ls hl => ?_)
  refine lv_iconst (v := 0) hx hb dX6_howManyGreater_10 (by decide) ?_
  refine lv_istore (lv' := [(6, .int 0), (5, .int x_7), (4, .ref a_p1), (3, .int 0), (0, .ref a_p1), (1, .long x2)]) hx hb dX6_howManyGreater_11 hl (by decide) rfl (fun ls hl => ?_)
  exact w13 FU x2 0 x_7 0 _ _ hP hD hS _ (lv_sub hl [5, 3, 2, 1, 0] rfl) hw
/-! ===== X6_greatestCommon ===== -/
theorem dX6_greatestCommon_0 : decode cX6_greatestCommon 0 = .ok (.iconst 0, 1) := by decide +kernel
theorem dX6_greatestCommon_1 : decode cX6_greatestCommon 1 = .ok (.istore 4, 2) := by decide +kernel
theorem dX6_greatestCommon_3 : decode cX6_greatestCommon 3 = .ok (.iload 4, 2) := by decide +kernel
theorem dX6_greatestCommon_5 : decode cX6_greatestCommon 5 = .ok (.sipush 200, 3) := by decide +kernel
theorem dX6_greatestCommon_8 : decode cX6_greatestCommon 8 = .ok (.if_icmp .ge 25, 3) := by decide +kernel
theorem dX6_greatestCommon_11 : decode cX6_greatestCommon 11 = .ok (.lload_n 2, 1) := by decide +kernel
theorem dX6_greatestCommon_12 : decode cX6_greatestCommon 12 = .ok (.lconst 0, 1) := by decide +kernel
theorem dX6_greatestCommon_13 : decode cX6_greatestCommon 13 = .ok (.lcmp, 1) := by decide +kernel
theorem dX6_greatestCommon_14 : decode cX6_greatestCommon 14 = .ok (.ifCond .eq 19, 3) := by decide +kernel
theorem dX6_greatestCommon_17 : decode cX6_greatestCommon 17 = .ok (.lload_n 0, 1) := by decide +kernel
theorem dX6_greatestCommon_18 : decode cX6_greatestCommon 18 = .ok (.lload_n 2, 1) := by decide +kernel
theorem dX6_greatestCommon_19 : decode cX6_greatestCommon 19 = .ok (.lrem, 1) := by decide +kernel
theorem dX6_greatestCommon_20 : decode cX6_greatestCommon 20 = .ok (.lstore 5, 2) := by decide +kernel
theorem dX6_greatestCommon_22 : decode cX6_greatestCommon 22 = .ok (.lload_n 2, 1) := by decide +kernel
theorem dX6_greatestCommon_23 : decode cX6_greatestCommon 23 = .ok (.lstore_n 0, 1) := by decide +kernel
theorem dX6_greatestCommon_24 : decode cX6_greatestCommon 24 = .ok (.lload 5, 2) := by decide +kernel
theorem dX6_greatestCommon_26 : decode cX6_greatestCommon 26 = .ok (.lstore_n 2, 1) := by decide +kernel
theorem dX6_greatestCommon_27 : decode cX6_greatestCommon 27 = .ok (.iinc 4 1, 3) := by decide +kernel
theorem dX6_greatestCommon_30 : decode cX6_greatestCommon 30 = .ok (.goto (-27), 3) := by decide +kernel
theorem dX6_greatestCommon_33 : decode cX6_greatestCommon 33 = .ok (.lload_n 0, 1) := by decide +kernel
theorem dX6_greatestCommon_34 : decode cX6_greatestCommon 34 = .ok (.lreturn, 1) := by decide +kernel
abbrev W_X6_greatestCommon (cyI cyJ cyO : ClassId) : va_W := []
def f_X6_greatestCommon_L3b (k3 : Int64 → Int64 → Int32 → Option (Int64)) (v0 : Int64) (v2 : Int64) (v4 : Int32) : Option (Int64) :=
  if 200 ≤ v4 then
    some v0
  else
    if (lg_cmp v2 0) = 0 then
      some v0
    else
      chk (¬ v2 = 0) <|
      nm (v0 - v0 / v2 * v2) fun x_1 =>
      nm (v4 + 1) fun x_2 =>
      k3 v2 x_1 x_2
def f_X6_greatestCommon_L3 : Nat → Int64 → Int64 → Int32 → Option (Int64)
  | 0 => fun _ _ _ => none
  | n + 1 => f_X6_greatestCommon_L3b (f_X6_greatestCommon_L3 n)
def f_X6_greatestCommon (x1 : Int64) (x2 : Int64) : Option (Int64) :=
  f_X6_greatestCommon_L3 FU x1 x2 0
abbrev rm_X6_greatestCommon : Room := { frames := 0, cells := 0, slots := 0, locals := 0 }
set_option maxRecDepth 100000 in
set_option maxHeartbeats 4000000 in
theorem c_X6_greatestCommon (l : Launch) (dC : Nat → ClassId) (dI : Nat → Nat → Nat) (cyI cyJ cyO : ClassId) (sz : Nat) (x1 : Int64) (x2 : Int64) (post : Int64 → Prop) (hf : okP (f_X6_greatestCommon x1 x2) post) : Cl l (dC, dI) (tyL cyI cyJ cyO) yX6_greatestCommon wsX6_greatestCommon rm_X6_greatestCommon [.long x1, .long x2] sz (W_X6_greatestCommon cyI cyJ cyO) zN (fun r (_ : Unit) => post r) (fun _ => (W_X6_greatestCommon cyI cyJ cyO)) := by
  refine Met.ofW (cc := cX6_greatestCommon) (maxL := 7) (ret := (some .long)) (by decide) rfl ?_
  intro p e s m args below meth c s₁ B hml hv
  obtain ⟨rfl, hsz, hP, hK, hD0, hZ⟩ := hv
  have hx := B.exec
  have hb := B.bytes
  have hr := B.returns
  have hts := atoms_spec (ws := wsX6_greatestCommon) B.pre
  have hown : s.vm.findClass RX6 = some m.cls := findClass_of_methodNamed B.named
  have hlocks := B.notSynchronized
  subst hsz
  have hD := hD0.self (sz := s.heap.size)
  generalize hAe : va_A (W_X6_greatestCommon cyI cyJ cyO) s.heap.size = A at hD hZ ⊢
  have hA : ∀ q : Nat, s.heap.size ≤ q → A q := fun q h => by rw [← hAe]; exact Or.inr h
  clear hAe hD0
  have hS : va_S A s.heap s.heap [] := va_S.rf
  have hl := lv_entry ([.long x1, .long x2]) (n := 7) (Nat.le_of_ble_eq_true rfl)
  rw [lg_entry_eq]
  generalize (lg_sl ([.long x1, .long x2]) ++ List.replicate (7 - (lg_sl ([.long x1, .long x2])).length) Slot.unset).toArray = ls at hl ⊢
  have hl : lv_has ls 7 [(0, .long x1), (2, .long x2)] := hl
  refine kW (fun Q hQ => ?_)
  have hw := hf
  have w3 : ∀ (n : Nat), ∀ (v0 : Int64) (v2 : Int64) (v4 : Int32) (H : Heap) (locs : List Loc), va_P (dC, dI) vwCl (W_X6_greatestCommon cyI cyJ cyO) H → va_D A (W_X6_greatestCommon cyI cyJ cyO) → va_S A s.heap H locs → ∀ (ls : Array Slot), lv_has ls 7 [(0, .long v0), (2, .long v2), (4, .int v4)] → okP (f_X6_greatestCommon_L3 n v0 v2 v4) post → W p l e (headSpec wsX6_greatestCommon rm_X6_greatestCommon).room s m ([.long x1, .long x2] : List Value).toArray below meth c H locs 0 0 Q (F0 m 3 ls []) := by
    intro n
    induction n with
    | zero =>
      intro v0 v2 v4 H locs hP hD hS ls hl hw
      exact (ok0 hw).elim
    | succ n3 ih3 =>
      intro v0 v2 v4 H locs hP hD hS ls hl hw
      replace hw : okP (f_X6_greatestCommon_L3b (f_X6_greatestCommon_L3 n3) v0 v2 v4) post := hw
      unfold f_X6_greatestCommon_L3b at hw
      refine lv_iload hx hb dX6_greatestCommon_3 (lv_at hl 2 rfl) ?_
      refine lv_sipush (v := 200) hx hb dX6_greatestCommon_5 (by decide) ?_
      refine lv_icmp_ge (tgt := 33) hx hb dX6_greatestCommon_8 (by decide) (fun c_1 => ?_) (fun c_1 => ?_)
      · replace hw := okT hw c_1
        clear c_1
        refine lv_lload_n hx hb dX6_greatestCommon_33 rfl (lv_at hl 0 rfl) ?_
        rw [hQ]
        exact W.lret (v := v0) hx hb hr (fun t ht hW => ⟨⟨v0, (), rfl, okS hw, by rw [ht]; exact hP, va_K.moved hW.alike hK, hD⟩, hS.F ht⟩) hS.2.2 dX6_greatestCommon_34
      · replace hw := okF hw c_1
        clear c_1
        refine lv_lload_n hx hb dX6_greatestCommon_11 rfl (lv_at hl 1 rfl) ?_
        refine lv_lconst (v := 0) hx hb dX6_greatestCommon_12 (by decide) ?_
        refine W.lcmp hx hb dX6_greatestCommon_13 ?_
        refine lv_if_eq (tgt := 33) hx hb dX6_greatestCommon_14 (by decide) (fun c_2 => ?_) (fun c_2 => ?_)
        · replace hw := okT hw c_2
          clear c_2
          refine lv_lload_n hx hb dX6_greatestCommon_33 rfl (lv_at hl 0 rfl) ?_
          rw [hQ]
          exact W.lret (v := v0) hx hb hr (fun t ht hW => ⟨⟨v0, (), rfl, okS hw, by rw [ht]; exact hP, va_K.moved hW.alike hK, hD⟩, hS.F ht⟩) hS.2.2 dX6_greatestCommon_34
        · replace hw := okF hw c_2
          clear c_2
          refine lv_lload_n hx hb dX6_greatestCommon_17 rfl (lv_at hl 0 rfl) ?_
          refine lv_lload_n hx hb dX6_greatestCommon_18 rfl (lv_at hl 1 rfl) ?_
          obtain ⟨h_3, hw⟩ := okC hw
          refine lv_lrem hx hb dX6_greatestCommon_19 h_3 ?_
          refine lv_topl (fun x_4 ex_4 => ?_)
          replace hw := okN ex_4 hw
          clear ex_4
          refine lv_lstore (lv' := [(5, .long x_4), (0, .long v0), (2, .long v2), (4, .int v4)]) hx hb dX6_greatestCommon_20 hl (by decide) rfl (fun ls hl => ?_)
          refine lv_lload_n hx hb dX6_greatestCommon_22 rfl (lv_at hl 2 rfl) ?_
          refine lv_lstore_n (lv' := [(0, .long v2), (5, .long x_4), (2, .long v2), (4, .int v4)]) hx hb dX6_greatestCommon_23 rfl hl (by decide) rfl (fun ls hl => ?_)
          refine lv_lload hx hb dX6_greatestCommon_24 (lv_at hl 1 rfl) ?_
          refine lv_lstore_n (lv' := [(2, .long x_4), (0, .long v2), (5, .long x_4), (4, .int v4)]) hx hb dX6_greatestCommon_26 rfl hl (by decide) rfl (fun ls hl => ?_)
          obtain ⟨x_5, ex_5⟩ : ∃ y : Int32, y = v4 + 1 := ⟨_, rfl⟩
          replace hw := okN ex_5 hw
          refine lv_iinc (v := x_5) (lv' := [(4, .int x_5), (2, .long x_4), (0, .long v2), (5, .long x_4)]) hx hb dX6_greatestCommon_27 hl (k := 3) rfl (by rw [ex_5]; rfl) (by decide) rfl (fun ls hl => ?_)
          clear ex_5
          refine lv_goto (tgt := 3) hx hb dX6_greatestCommon_30 (by decide) ?_
          exact ih3 v2 x_4 x_5 _ _ hP hD hS _ (lv_sub hl [2, 1, 0] rfl) hw
  unfold f_X6_greatestCommon at hw
  have hP : va_P (dC, dI) vwCl (W_X6_greatestCommon cyI cyJ cyO) s.heap := hP
  obtain ⟨H, hH⟩ : ∃ H, H = s.heap := ⟨_, rfl⟩
  obtain ⟨locs, hlo⟩ : ∃ x : List Loc, x = [] := ⟨_, rfl⟩
  have hP : va_P (dC, dI) vwCl (W_X6_greatestCommon cyI cyJ cyO) H := by rw [hH]; exact hP
  have hS : va_S A s.heap H locs := by rw [hH, hlo]; exact hS
  refine kH hH hlo ?_
  clear hH hlo
  refine lv_iconst (v := 0) hx hb dX6_greatestCommon_0 (by decide) ?_
  refine lv_istore (lv' := [(4, .int 0), (0, .long x1), (2, .long x2)]) hx hb dX6_greatestCommon_1 hl (by decide) rfl (fun ls hl => ?_)
  exact w3 FU x1 x2 0 _ _ hP hD hS _ (lv_sub hl [1, 2, 0] rfl) hw
/-! ===== X6_partOf ===== -/
theorem dX6_partOf_0 : decode cX6_partOf 0 = .ok (.lload_n 2, 1) := by decide +kernel
theorem dX6_partOf_1 : decode cX6_partOf 1 = .ok (.lconst 0, 1) := by decide +kernel
theorem dX6_partOf_2 : decode cX6_partOf 2 = .ok (.lcmp, 1) := by decide +kernel
theorem dX6_partOf_3 : decode cX6_partOf 3 = .ok (.ifCond .gt 7, 3) := by decide +kernel
theorem dX6_partOf_6 : decode cX6_partOf 6 = .ok (.ldc2_w 321, 3) := by decide +kernel
theorem dX6_partOf_9 : decode cX6_partOf 9 = .ok (.lreturn, 1) := by decide +kernel
theorem dX6_partOf_10 : decode cX6_partOf 10 = .ok (.lload_n 0, 1) := by decide +kernel
theorem dX6_partOf_11 : decode cX6_partOf 11 = .ok (.lload_n 2, 1) := by decide +kernel
theorem dX6_partOf_12 : decode cX6_partOf 12 = .ok (.invokestatic 323, 3) := by decide +kernel
theorem dX6_partOf_15 : decode cX6_partOf 15 = .ok (.lstore 5, 2) := by decide +kernel
theorem dX6_partOf_17 : decode cX6_partOf 17 = .ok (.lload 5, 2) := by decide +kernel
theorem dX6_partOf_19 : decode cX6_partOf 19 = .ok (.lconst 0, 1) := by decide +kernel
theorem dX6_partOf_20 : decode cX6_partOf 20 = .ok (.lcmp, 1) := by decide +kernel
theorem dX6_partOf_21 : decode cX6_partOf 21 = .ok (.ifCond .gt 7, 3) := by decide +kernel
theorem dX6_partOf_24 : decode cX6_partOf 24 = .ok (.ldc2_w 321, 3) := by decide +kernel
theorem dX6_partOf_27 : decode cX6_partOf 27 = .ok (.lreturn, 1) := by decide +kernel
theorem dX6_partOf_28 : decode cX6_partOf 28 = .ok (.iload 4, 2) := by decide +kernel
theorem dX6_partOf_30 : decode cX6_partOf 30 = .ok (.ifCond .ne 7, 3) := by decide +kernel
theorem dX6_partOf_33 : decode cX6_partOf 33 = .ok (.lload_n 0, 1) := by decide +kernel
theorem dX6_partOf_34 : decode cX6_partOf 34 = .ok (.goto 4, 3) := by decide +kernel
theorem dX6_partOf_37 : decode cX6_partOf 37 = .ok (.lload_n 2, 1) := by decide +kernel
theorem dX6_partOf_38 : decode cX6_partOf 38 = .ok (.lload 5, 2) := by decide +kernel
theorem dX6_partOf_40 : decode cX6_partOf 40 = .ok (.ldiv, 1) := by decide +kernel
theorem dX6_partOf_41 : decode cX6_partOf 41 = .ok (.lreturn, 1) := by decide +kernel
abbrev W_X6_partOf (cyI cyJ cyO : ClassId) : va_W := []
def f_X6_partOf (x1 : Int64) (x2 : Int64) (x3 : Int32) : Option (Int64) :=
  if 0 < (lg_cmp x2 0) then
    bd1 (f_X6_greatestCommon x1 x2) fun r_1 =>
    if 0 < (lg_cmp r_1 0) then
      if x3 = 0 then
        chk (¬ r_1 = 0) <|
        some (x1 / r_1)
      else
        chk (¬ r_1 = 0) <|
        some (x2 / r_1)
    else
      some (-4)
  else
    some (-4)
abbrev rm_X6_partOf : Room := { frames := 1, cells := 0, slots := 0, locals := 26 }
set_option maxRecDepth 100000 in
set_option maxHeartbeats 4000000 in
theorem c_X6_partOf (l : Launch) (dC : Nat → ClassId) (dI : Nat → Nat → Nat) (cyI cyJ cyO : ClassId) (sz : Nat) (x1 : Int64) (x2 : Int64) (x3 : Int32) (post : Int64 → Prop) (hf : okP (f_X6_partOf x1 x2 x3) post) : Cl l (dC, dI) (tyL cyI cyJ cyO) yX6_partOf wsX6_partOf rm_X6_partOf [.long x1, .long x2, .int x3] sz (W_X6_partOf cyI cyJ cyO) zN (fun r (_ : Unit) => post r) (fun _ => (W_X6_partOf cyI cyJ cyO)) := by
  refine Met.ofW (cc := cX6_partOf) (maxL := 7) (ret := (some .long)) (by decide) rfl ?_
  intro p e s m args below meth c s₁ B hml hv
  obtain ⟨rfl, hsz, hP, hK, hD0, hZ⟩ := hv
  have hx := B.exec
  have hb := B.bytes
  have hr := B.returns
  have hts := atoms_spec (ws := wsX6_partOf) B.pre
  have hown : s.vm.findClass RX6 = some m.cls := findClass_of_methodNamed B.named
  have hlocks := B.notSynchronized
  subst hsz
  have hD := hD0.self (sz := s.heap.size)
  generalize hAe : va_A (W_X6_partOf cyI cyJ cyO) s.heap.size = A at hD hZ ⊢
  have hA : ∀ q : Nat, s.heap.size ≤ q → A q := fun q h => by rw [← hAe]; exact Or.inr h
  clear hAe hD0
  have hS : va_S A s.heap s.heap [] := va_S.rf
  have hl := lv_entry ([.long x1, .long x2, .int x3]) (n := 7) (Nat.le_of_ble_eq_true rfl)
  rw [lg_entry_eq]
  generalize (lg_sl ([.long x1, .long x2, .int x3]) ++ List.replicate (7 - (lg_sl ([.long x1, .long x2, .int x3])).length) Slot.unset).toArray = ls at hl ⊢
  have hl : lv_has ls 7 [(0, .long x1), (2, .long x2), (4, .int x3)] := hl
  refine kW (fun Q hQ => ?_)
  have hq0 := hts _ (List.mem_cons_of_mem _ q_553)
  have hw := hf
  unfold f_X6_partOf at hw
  have hP : va_P (dC, dI) vwCl (W_X6_partOf cyI cyJ cyO) s.heap := hP
  obtain ⟨H, hH⟩ : ∃ H, H = s.heap := ⟨_, rfl⟩
  obtain ⟨locs, hlo⟩ : ∃ x : List Loc, x = [] := ⟨_, rfl⟩
  have hP : va_P (dC, dI) vwCl (W_X6_partOf cyI cyJ cyO) H := by rw [hH]; exact hP
  have hS : va_S A s.heap H locs := by rw [hH, hlo]; exact hS
  refine kH hH hlo ?_
  clear hH hlo
  refine lv_lload_n hx hb dX6_partOf_0 rfl (lv_at hl 1 rfl) ?_
  refine lv_lconst (v := 0) hx hb dX6_partOf_1 (by decide) ?_
  refine W.lcmp hx hb dX6_partOf_2 ?_
  refine lv_if_gt (tgt := 10) hx hb dX6_partOf_3 (by decide) (fun c_1 => ?_) (fun c_1 => ?_)
  · replace hw := okT hw c_1
    clear c_1
    refine lv_lload_n hx hb dX6_partOf_10 rfl (lv_at hl 0 rfl) ?_
    refine lv_lload_n hx hb dX6_partOf_11 rfl (lv_at hl 1 rfl) ?_
    have hFc := va_free (wc := []) hD hS hA [] rfl
    refine kp_l (va_runS (As := [.long x1, .long x2]) (rest := []) ⟨hx, hb, hml, hown, hts⟩ (c_X6_greatestCommon l dC dI cyI cyJ cyO H.size x1 x2 _ (okb1 hw)) (va_cwS 2 hts (gdS (fun w h => List.mem_cons_of_mem _ h) q_554 q_555 q_1 q_556) rfl rfl rfl (by decide +kernel) ⟨Nat.le_of_ble_eq_true rfl, Nat.le_of_ble_eq_true rfl⟩) (kpre zN_ok hK va_P0 va_D0 trivial hS hFc) rfl rfl hl.1 rfl (lv_room (Nat.le_of_ble_eq_true rfl)) dX6_partOf_12 ⟨Nat.le_of_ble_eq_true rfl, Nat.le_of_ble_eq_true rfl⟩) hP hD hS hFc (fun r_2 H locs hw hP hS => ?_)
    try dsimp only at hw
    clear hFc
    refine lv_lstore (lv' := [(5, .long r_2), (0, .long x1), (2, .long x2), (4, .int x3)]) hx hb dX6_partOf_15 hl (by decide) rfl (fun ls hl => ?_)
    refine lv_lload hx hb dX6_partOf_17 (lv_at hl 0 rfl) ?_
    refine lv_lconst (v := 0) hx hb dX6_partOf_19 (by decide) ?_
    refine W.lcmp hx hb dX6_partOf_20 ?_
    refine lv_if_gt (tgt := 28) hx hb dX6_partOf_21 (by decide) (fun c_3 => ?_) (fun c_3 => ?_)
    · replace hw := okT hw c_3
      clear c_3
      refine lv_iload hx hb dX6_partOf_28 (lv_at hl 3 rfl) ?_
      refine lv_if_ne (tgt := 37) hx hb dX6_partOf_30 (by decide) (fun c_4 => ?_) (fun c_4 => ?_)
      · replace hw := okF hw c_4
        clear c_4
        refine lv_lload_n hx hb dX6_partOf_37 rfl (lv_at hl 2 rfl) ?_
        refine lv_lload hx hb dX6_partOf_38 (lv_at hl 0 rfl) ?_
        obtain ⟨h_5, hw⟩ := okC hw
        refine lv_ldiv hx hb dX6_partOf_40 h_5 ?_
        rw [hQ]
        exact W.lret (v := x2 / r_2) hx hb hr (fun t ht hW => ⟨⟨x2 / r_2, (), rfl, okS hw, by rw [ht]; exact hP, va_K.moved hW.alike hK, hD⟩, hS.F ht⟩) hS.2.2 dX6_partOf_41
      · replace hw := okT hw c_4
        clear c_4
        refine lv_lload_n hx hb dX6_partOf_33 rfl (lv_at hl 1 rfl) ?_
        refine lv_goto (tgt := 38) hx hb dX6_partOf_34 (by decide) ?_
        refine lv_lload hx hb dX6_partOf_38 (lv_at hl 0 rfl) ?_
        obtain ⟨h_6, hw⟩ := okC hw
        refine lv_ldiv hx hb dX6_partOf_40 h_6 ?_
        rw [hQ]
        exact W.lret (v := x1 / r_2) hx hb hr (fun t ht hW => ⟨⟨x1 / r_2, (), rfl, okS hw, by rw [ht]; exact hP, va_K.moved hW.alike hK, hD⟩, hS.F ht⟩) hS.2.2 dX6_partOf_41
    · replace hw := okF hw c_3
      clear c_3
      refine lv_ldc2 (v := (-4)) hx hb hown hq0 dX6_partOf_24 ?_
      rw [hQ]
      exact W.lret (v := (-4)) hx hb hr (fun t ht hW => ⟨⟨(-4), (), rfl, okS hw, by rw [ht]; exact hP, va_K.moved hW.alike hK, hD⟩, hS.F ht⟩) hS.2.2 dX6_partOf_27
  · replace hw := okF hw c_1
    clear c_1
    refine lv_ldc2 (v := (-4)) hx hb hown hq0 dX6_partOf_6 ?_
    rw [hQ]
    exact W.lret (v := (-4)) hx hb hr (fun t ht hW => ⟨⟨(-4), (), rfl, okS hw, by rw [ht]; exact hP, va_K.moved hW.alike hK, hD⟩, hS.F ht⟩) hS.2.2 dX6_partOf_9
/-! ===== X4_wholeRoot ===== -/
theorem dX4_wholeRoot_0 : decode cX4_wholeRoot 0 = .ok (.iconst 0, 1) := by decide +kernel
theorem dX4_wholeRoot_1 : decode cX4_wholeRoot 1 = .ok (.istore_n 1, 1) := by decide +kernel
theorem dX4_wholeRoot_2 : decode cX4_wholeRoot 2 = .ok (.iload_n 1, 1) := by decide +kernel
theorem dX4_wholeRoot_3 : decode cX4_wholeRoot 3 = .ok (.bipush 100, 2) := by decide +kernel
theorem dX4_wholeRoot_5 : decode cX4_wholeRoot 5 = .ok (.if_icmp .ge 20, 3) := by decide +kernel
theorem dX4_wholeRoot_8 : decode cX4_wholeRoot 8 = .ok (.iload_n 1, 1) := by decide +kernel
theorem dX4_wholeRoot_9 : decode cX4_wholeRoot 9 = .ok (.iconst 1, 1) := by decide +kernel
theorem dX4_wholeRoot_10 : decode cX4_wholeRoot 10 = .ok (.iadd, 1) := by decide +kernel
theorem dX4_wholeRoot_11 : decode cX4_wholeRoot 11 = .ok (.iload_n 1, 1) := by decide +kernel
theorem dX4_wholeRoot_12 : decode cX4_wholeRoot 12 = .ok (.iconst 1, 1) := by decide +kernel
theorem dX4_wholeRoot_13 : decode cX4_wholeRoot 13 = .ok (.iadd, 1) := by decide +kernel
theorem dX4_wholeRoot_14 : decode cX4_wholeRoot 14 = .ok (.imul, 1) := by decide +kernel
theorem dX4_wholeRoot_15 : decode cX4_wholeRoot 15 = .ok (.iload_n 0, 1) := by decide +kernel
theorem dX4_wholeRoot_16 : decode cX4_wholeRoot 16 = .ok (.if_icmp .gt 9, 3) := by decide +kernel
theorem dX4_wholeRoot_19 : decode cX4_wholeRoot 19 = .ok (.iinc 1 1, 3) := by decide +kernel
theorem dX4_wholeRoot_22 : decode cX4_wholeRoot 22 = .ok (.goto (-20), 3) := by decide +kernel
theorem dX4_wholeRoot_25 : decode cX4_wholeRoot 25 = .ok (.iload_n 1, 1) := by decide +kernel
theorem dX4_wholeRoot_26 : decode cX4_wholeRoot 26 = .ok (.ireturn, 1) := by decide +kernel
abbrev W_X4_wholeRoot (cyI cyJ cyO : ClassId) : va_W := []
def f_X4_wholeRoot_L2b (k2 : Int32 → Int32 → Option (Int32)) (v0 : Int32) (v1 : Int32) : Option (Int32) :=
  if 100 ≤ v1 then
    some v1
  else
    if v0 < ((v1 + 1) * (v1 + 1)) then
      some v1
    else
      nm (v1 + 1) fun x_1 =>
      k2 v0 x_1
def f_X4_wholeRoot_L2 : Nat → Int32 → Int32 → Option (Int32)
  | 0 => fun _ _ => none
  | n + 1 => f_X4_wholeRoot_L2b (f_X4_wholeRoot_L2 n)
def f_X4_wholeRoot (x1 : Int32) : Option (Int32) :=
  f_X4_wholeRoot_L2 FU x1 0
abbrev rm_X4_wholeRoot : Room := { frames := 0, cells := 0, slots := 0, locals := 0 }
set_option maxRecDepth 100000 in
set_option maxHeartbeats 4000000 in
theorem c_X4_wholeRoot (l : Launch) (dC : Nat → ClassId) (dI : Nat → Nat → Nat) (cyI cyJ cyO : ClassId) (sz : Nat) (x1 : Int32) (post : Int32 → Prop) (hf : okP (f_X4_wholeRoot x1) post) : Ci l (dC, dI) (tyL cyI cyJ cyO) yX4_wholeRoot wsX4_wholeRoot rm_X4_wholeRoot [.int x1] sz (W_X4_wholeRoot cyI cyJ cyO) zN (fun r (_ : Unit) => post r) (fun _ => (W_X4_wholeRoot cyI cyJ cyO)) := by
  refine Met.ofW (cc := cX4_wholeRoot) (maxL := 2) (ret := (some .int)) (by decide) rfl ?_
  intro p e s m args below meth c s₁ B hml hv
  obtain ⟨rfl, hsz, hP, hK, hD0, hZ⟩ := hv
  have hx := B.exec
  have hb := B.bytes
  have hr := B.returns
  have hts := atoms_spec (ws := wsX4_wholeRoot) B.pre
  have hown : s.vm.findClass RX4 = some m.cls := findClass_of_methodNamed B.named
  have hlocks := B.notSynchronized
  subst hsz
  have hD := hD0.self (sz := s.heap.size)
  generalize hAe : va_A (W_X4_wholeRoot cyI cyJ cyO) s.heap.size = A at hD hZ ⊢
  have hA : ∀ q : Nat, s.heap.size ≤ q → A q := fun q h => by rw [← hAe]; exact Or.inr h
  clear hAe hD0
  have hS : va_S A s.heap s.heap [] := va_S.rf
  have hl := lv_entry ([.int x1]) (n := 2) (Nat.le_of_ble_eq_true rfl)
  rw [lg_entry_eq]
  generalize (lg_sl ([.int x1]) ++ List.replicate (2 - (lg_sl ([.int x1])).length) Slot.unset).toArray = ls at hl ⊢
  have hl : lv_has ls 2 [(0, .int x1)] := hl
  refine kW (fun Q hQ => ?_)
  have hw := hf
  have w2 : ∀ (n : Nat), ∀ (v0 : Int32) (v1 : Int32) (H : Heap) (locs : List Loc), va_P (dC, dI) vwCl (W_X4_wholeRoot cyI cyJ cyO) H → va_D A (W_X4_wholeRoot cyI cyJ cyO) → va_S A s.heap H locs → ∀ (ls : Array Slot), lv_has ls 2 [(0, .int v0), (1, .int v1)] → okP (f_X4_wholeRoot_L2 n v0 v1) post → W p l e (headSpec wsX4_wholeRoot rm_X4_wholeRoot).room s m ([.int x1] : List Value).toArray below meth c H locs 0 0 Q (F0 m 2 ls []) := by
    intro n
    induction n with
    | zero =>
      intro v0 v1 H locs hP hD hS ls hl hw
      exact (ok0 hw).elim
    | succ n2 ih2 =>
      intro v0 v1 H locs hP hD hS ls hl hw
      replace hw : okP (f_X4_wholeRoot_L2b (f_X4_wholeRoot_L2 n2) v0 v1) post := hw
      unfold f_X4_wholeRoot_L2b at hw
      refine lv_iload_n hx hb dX4_wholeRoot_2 rfl (lv_at hl 1 rfl) ?_
      refine lv_bipush (v := 100) hx hb dX4_wholeRoot_3 (by decide) ?_
      refine lv_icmp_ge (tgt := 25) hx hb dX4_wholeRoot_5 (by decide) (fun c_1 => ?_) (fun c_1 => ?_)
      · replace hw := okT hw c_1
        clear c_1
        refine lv_iload_n hx hb dX4_wholeRoot_25 rfl (lv_at hl 1 rfl) ?_
        rw [hQ]
        exact W.iret (v := v1) hx hb hr (fun t ht hW => ⟨⟨v1, (), rfl, okS hw, by rw [ht]; exact hP, va_K.moved hW.alike hK, hD⟩, hS.F ht⟩) hS.2.2 dX4_wholeRoot_26
      · replace hw := okF hw c_1
        clear c_1
        refine lv_iload_n hx hb dX4_wholeRoot_8 rfl (lv_at hl 1 rfl) ?_
        refine lv_iconst (v := 1) hx hb dX4_wholeRoot_9 (by decide) ?_
        refine lv_iadd hx hb dX4_wholeRoot_10 ?_
        refine lv_iload_n hx hb dX4_wholeRoot_11 rfl (lv_at hl 1 rfl) ?_
        refine lv_iconst (v := 1) hx hb dX4_wholeRoot_12 (by decide) ?_
        refine lv_iadd hx hb dX4_wholeRoot_13 ?_
        refine lv_imul hx hb dX4_wholeRoot_14 ?_
        refine lv_iload_n hx hb dX4_wholeRoot_15 rfl (lv_at hl 0 rfl) ?_
        refine lv_icmp_gt (tgt := 25) hx hb dX4_wholeRoot_16 (by decide) (fun c_2 => ?_) (fun c_2 => ?_)
        · replace hw := okT hw c_2
          clear c_2
          refine lv_iload_n hx hb dX4_wholeRoot_25 rfl (lv_at hl 1 rfl) ?_
          rw [hQ]
          exact W.iret (v := v1) hx hb hr (fun t ht hW => ⟨⟨v1, (), rfl, okS hw, by rw [ht]; exact hP, va_K.moved hW.alike hK, hD⟩, hS.F ht⟩) hS.2.2 dX4_wholeRoot_26
        · replace hw := okF hw c_2
          clear c_2
          obtain ⟨x_3, ex_3⟩ : ∃ y : Int32, y = v1 + 1 := ⟨_, rfl⟩
          replace hw := okN ex_3 hw
          refine lv_iinc (v := x_3) (lv' := [(1, .int x_3), (0, .int v0)]) hx hb dX4_wholeRoot_19 hl (k := 1) rfl (by rw [ex_3]; rfl) (by decide) rfl (fun ls hl => ?_)
          clear ex_3
          refine lv_goto (tgt := 2) hx hb dX4_wholeRoot_22 (by decide) ?_
          exact ih2 v0 x_3 _ _ hP hD hS _ (lv_sub hl [1, 0] rfl) hw
  unfold f_X4_wholeRoot at hw
  have hP : va_P (dC, dI) vwCl (W_X4_wholeRoot cyI cyJ cyO) s.heap := hP
  obtain ⟨H, hH⟩ : ∃ H, H = s.heap := ⟨_, rfl⟩
  obtain ⟨locs, hlo⟩ : ∃ x : List Loc, x = [] := ⟨_, rfl⟩
  have hP : va_P (dC, dI) vwCl (W_X4_wholeRoot cyI cyJ cyO) H := by rw [hH]; exact hP
  have hS : va_S A s.heap H locs := by rw [hH, hlo]; exact hS
  refine kH hH hlo ?_
  clear hH hlo
  refine lv_iconst (v := 0) hx hb dX4_wholeRoot_0 (by decide) ?_
  refine lv_istore_n (lv' := [(1, .int 0), (0, .int x1)]) hx hb dX4_wholeRoot_1 rfl hl (by decide) rfl (fun ls hl => ?_)
  exact w2 FU x1 0 _ _ hP hD hS _ (lv_sub hl [1, 0] rfl) hw
/-! ===== X4_look ===== -/
theorem dX4_look_0 : decode cX4_look 0 = .ok (.aload_n 0, 1) := by decide +kernel
theorem dX4_look_1 : decode cX4_look 1 = .ok (.getfield 9, 3) := by decide +kernel
theorem dX4_look_4 : decode cX4_look 4 = .ok (.iconst 0, 1) := by decide +kernel
theorem dX4_look_5 : decode cX4_look 5 = .ok (.iaload, 1) := by decide +kernel
theorem dX4_look_6 : decode cX4_look 6 = .ok (.istore_n 1, 1) := by decide +kernel
theorem dX4_look_7 : decode cX4_look 7 = .ok (.iconst 0, 1) := by decide +kernel
theorem dX4_look_8 : decode cX4_look 8 = .ok (.istore_n 2, 1) := by decide +kernel
theorem dX4_look_9 : decode cX4_look 9 = .ok (.iload_n 2, 1) := by decide +kernel
theorem dX4_look_10 : decode cX4_look 10 = .ok (.bipush 100, 2) := by decide +kernel
theorem dX4_look_12 : decode cX4_look 12 = .ok (.if_icmp .ge 50, 3) := by decide +kernel
theorem dX4_look_15 : decode cX4_look 15 = .ok (.iload_n 2, 1) := by decide +kernel
theorem dX4_look_16 : decode cX4_look 16 = .ok (.bipush 10, 2) := by decide +kernel
theorem dX4_look_18 : decode cX4_look 18 = .ok (.idiv, 1) := by decide +kernel
theorem dX4_look_19 : decode cX4_look 19 = .ok (.iload_n 1, 1) := by decide +kernel
theorem dX4_look_20 : decode cX4_look 20 = .ok (.bipush 10, 2) := by decide +kernel
theorem dX4_look_22 : decode cX4_look 22 = .ok (.idiv, 1) := by decide +kernel
theorem dX4_look_23 : decode cX4_look 23 = .ok (.isub, 1) := by decide +kernel
theorem dX4_look_24 : decode cX4_look 24 = .ok (.istore_n 3, 1) := by decide +kernel
theorem dX4_look_25 : decode cX4_look 25 = .ok (.iload_n 2, 1) := by decide +kernel
theorem dX4_look_26 : decode cX4_look 26 = .ok (.bipush 10, 2) := by decide +kernel
theorem dX4_look_28 : decode cX4_look 28 = .ok (.irem, 1) := by decide +kernel
theorem dX4_look_29 : decode cX4_look 29 = .ok (.iload_n 1, 1) := by decide +kernel
theorem dX4_look_30 : decode cX4_look 30 = .ok (.bipush 10, 2) := by decide +kernel
theorem dX4_look_32 : decode cX4_look 32 = .ok (.irem, 1) := by decide +kernel
theorem dX4_look_33 : decode cX4_look 33 = .ok (.isub, 1) := by decide +kernel
theorem dX4_look_34 : decode cX4_look 34 = .ok (.istore 4, 2) := by decide +kernel
theorem dX4_look_36 : decode cX4_look 36 = .ok (.aload_n 0, 1) := by decide +kernel
theorem dX4_look_37 : decode cX4_look 37 = .ok (.getfield 30, 3) := by decide +kernel
theorem dX4_look_40 : decode cX4_look 40 = .ok (.iload_n 2, 1) := by decide +kernel
theorem dX4_look_41 : decode cX4_look 41 = .ok (.iconst 4, 1) := by decide +kernel
theorem dX4_look_42 : decode cX4_look 42 = .ok (.iload_n 3, 1) := by decide +kernel
theorem dX4_look_43 : decode cX4_look 43 = .ok (.iload_n 3, 1) := by decide +kernel
theorem dX4_look_44 : decode cX4_look 44 = .ok (.imul, 1) := by decide +kernel
theorem dX4_look_45 : decode cX4_look 45 = .ok (.iload 4, 2) := by decide +kernel
theorem dX4_look_47 : decode cX4_look 47 = .ok (.iload 4, 2) := by decide +kernel
theorem dX4_look_49 : decode cX4_look 49 = .ok (.imul, 1) := by decide +kernel
theorem dX4_look_50 : decode cX4_look 50 = .ok (.iadd, 1) := by decide +kernel
theorem dX4_look_51 : decode cX4_look 51 = .ok (.imul, 1) := by decide +kernel
theorem dX4_look_52 : decode cX4_look 52 = .ok (.invokestatic 70, 3) := by decide +kernel
theorem dX4_look_55 : decode cX4_look 55 = .ok (.iastore, 1) := by decide +kernel
theorem dX4_look_56 : decode cX4_look 56 = .ok (.iinc 2 1, 3) := by decide +kernel
theorem dX4_look_59 : decode cX4_look 59 = .ok (.goto (-50), 3) := by decide +kernel
theorem dX4_look_62 : decode cX4_look 62 = .ok (.return_, 1) := by decide +kernel
abbrev W_X4_look (cyI cyJ cyO : ClassId) (h_o a_o_settings a_o_howFar a_o_tones a_o_currents a_o_warmths a_o_depths a_o_fars a_o_pieceCells a_o_pieceMonths a_o_pieceHighs a_o_pieceAges a_o_pieceNeeds a_o_dragCells a_o_dragEighths : Nat) (o_pieceCount : Int32) (o_dragCount : Int32) (o_settings : Nat → Int32) (o_fars : Nat → Int32) : va_W := [(h_o, .inr (4, [.ref a_o_settings, .ref a_o_howFar, .ref a_o_tones, .ref a_o_currents, .ref a_o_warmths, .ref a_o_depths, .ref a_o_fars, .ref a_o_pieceCells, .ref a_o_pieceMonths, .ref a_o_pieceHighs, .ref a_o_pieceAges, .ref a_o_pieceNeeds, .ref a_o_dragCells, .ref a_o_dragEighths, .int o_pieceCount, .int o_dragCount])), (a_o_settings, .inl (cyI, 8, .inl o_settings)), (a_o_fars, .inl (cyI, 100, .inl o_fars))]
def f_X4_look_L9b (k9 : Int32 → Int32 → (Nat → Int32) → (Nat → Int32) → Option ((Nat → Int32))) (v1 : Int32) (v2 : Int32) (o_settings : Nat → Int32) (o_fars : Nat → Int32) : Option ((Nat → Int32)) :=
  if 100 ≤ v2 then
    some o_fars
  else
    nm ((v2 / 10) - (v1 / 10)) fun x_1 =>
    nm ((v2 - v2 / 10 * 10) - (v1 - v1 / 10 * 10)) fun x_2 =>
    bd1 (f_X4_wholeRoot (4 * ((x_1 * x_1) + (x_2 * x_2)))) fun r_3 =>
    chk (¬ (v2 < 0 ∨ 100 ≤ v2.toNatClampNeg)) <|
    nm (v2 + 1) fun x_4 =>
    k9 v1 x_4 o_settings (upd o_fars v2.toNatClampNeg r_3)
def f_X4_look_L9 : Nat → Int32 → Int32 → (Nat → Int32) → (Nat → Int32) → Option ((Nat → Int32))
  | 0 => fun _ _ _ _ => none
  | n + 1 => f_X4_look_L9b (f_X4_look_L9 n)
def f_X4_look (o_settings : Nat → Int32) (o_fars : Nat → Int32) : Option ((Nat → Int32)) :=
  nm (o_settings 0) fun x_5 =>
  f_X4_look_L9 FU x_5 0 o_settings o_fars
abbrev rm_X4_look : Room := { frames := 1, cells := 0, slots := 0, locals := 21 }
set_option maxRecDepth 100000 in
set_option maxHeartbeats 4000000 in
theorem c_X4_look (l : Launch) (dC : Nat → ClassId) (dI : Nat → Nat → Nat) (cyI cyJ cyO : ClassId) (sz : Nat) (h_o a_o_settings a_o_howFar a_o_tones a_o_currents a_o_warmths a_o_depths a_o_fars a_o_pieceCells a_o_pieceMonths a_o_pieceHighs a_o_pieceAges a_o_pieceNeeds a_o_dragCells a_o_dragEighths : Nat) (o_pieceCount : Int32) (o_dragCount : Int32) (o_settings : Nat → Int32) (o_fars : Nat → Int32) (post : ((Nat → Int32)) → Prop) (hf : okP (f_X4_look o_settings o_fars) post) : Cv l (dC, dI) (tyL cyI cyJ cyO) yX4_look wsX4_look rm_X4_look [.ref h_o] sz (W_X4_look cyI cyJ cyO h_o a_o_settings a_o_howFar a_o_tones a_o_currents a_o_warmths a_o_depths a_o_fars a_o_pieceCells a_o_pieceMonths a_o_pieceHighs a_o_pieceAges a_o_pieceNeeds a_o_dragCells a_o_dragEighths o_pieceCount o_dragCount o_settings o_fars) zN (fun u => post u) (fun u => (W_X4_look cyI cyJ cyO h_o a_o_settings a_o_howFar a_o_tones a_o_currents a_o_warmths a_o_depths a_o_fars a_o_pieceCells a_o_pieceMonths a_o_pieceHighs a_o_pieceAges a_o_pieceNeeds a_o_dragCells a_o_dragEighths o_pieceCount o_dragCount o_settings u)) := by
  refine Met.ofW (cc := cX4_look) (maxL := 5) (ret := none) (by decide) rfl ?_
  intro p e s m args below meth c s₁ B hml hv
  obtain ⟨rfl, hsz, hP, hK, hD0, hZ⟩ := hv
  have hx := B.exec
  have hb := B.bytes
  have hr := B.returns
  have hts := atoms_spec (ws := wsX4_look) B.pre
  have hown : s.vm.findClass RX4 = some m.cls := findClass_of_methodNamed B.named
  have hlocks := B.notSynchronized
  subst hsz
  have hD := hD0.self (sz := s.heap.size)
  generalize hAe : va_A (W_X4_look cyI cyJ cyO h_o a_o_settings a_o_howFar a_o_tones a_o_currents a_o_warmths a_o_depths a_o_fars a_o_pieceCells a_o_pieceMonths a_o_pieceHighs a_o_pieceAges a_o_pieceNeeds a_o_dragCells a_o_dragEighths o_pieceCount o_dragCount o_settings o_fars) s.heap.size = A at hD hZ ⊢
  have hA : ∀ q : Nat, s.heap.size ≤ q → A q := fun q h => by rw [← hAe]; exact Or.inr h
  clear hAe hD0
  have hS : va_S A s.heap s.heap [] := va_S.rf
  have hl := lv_entry ([.ref h_o]) (n := 5) (Nat.le_of_ble_eq_true rfl)
  rw [lg_entry_eq]
  generalize (lg_sl ([.ref h_o]) ++ List.replicate (5 - (lg_sl ([.ref h_o])).length) Slot.unset).toArray = ls at hl ⊢
  have hl : lv_has ls 5 [(0, .ref h_o)] := hl
  refine kW (fun Q hQ => ?_)
  have hq0 := hts _ (List.mem_cons_of_mem _ q_50)
  have hi4 : ∀ w ∈ u_ws RX4 TX4 16, w ∈ wsX4_look := fun w h => List.mem_cons_of_mem _ (inX4 w h)
  have hq2 := hts _ (List.mem_cons_of_mem _ q_32)
  have hw := hf
  have w9 : ∀ (n : Nat), ∀ (v1 : Int32) (v2 : Int32) (o_fars : Nat → Int32) (H : Heap) (locs : List Loc), va_P (dC, dI) vwCl (W_X4_look cyI cyJ cyO h_o a_o_settings a_o_howFar a_o_tones a_o_currents a_o_warmths a_o_depths a_o_fars a_o_pieceCells a_o_pieceMonths a_o_pieceHighs a_o_pieceAges a_o_pieceNeeds a_o_dragCells a_o_dragEighths o_pieceCount o_dragCount o_settings o_fars) H → va_D A (W_X4_look cyI cyJ cyO h_o a_o_settings a_o_howFar a_o_tones a_o_currents a_o_warmths a_o_depths a_o_fars a_o_pieceCells a_o_pieceMonths a_o_pieceHighs a_o_pieceAges a_o_pieceNeeds a_o_dragCells a_o_dragEighths o_pieceCount o_dragCount o_settings o_fars) → va_S A s.heap H locs → ∀ (ls : Array Slot), lv_has ls 5 [(0, .ref h_o), (1, .int v1), (2, .int v2)] → okP (f_X4_look_L9 n v1 v2 o_settings o_fars) post → W p l e (headSpec wsX4_look rm_X4_look).room s m ([.ref h_o] : List Value).toArray below meth c H locs 0 0 Q (F0 m 9 ls []) := by
    intro n
    induction n with
    | zero =>
      intro v1 v2 o_fars H locs hP hD hS ls hl hw
      exact (ok0 hw).elim
    | succ n9 ih9 =>
      intro v1 v2 o_fars H locs hP hD hS ls hl hw
      replace hw : okP (f_X4_look_L9b (f_X4_look_L9 n9) v1 v2 o_settings o_fars) post := hw
      unfold f_X4_look_L9b at hw
      refine lv_iload_n hx hb dX4_look_9 rfl (lv_at hl 2 rfl) ?_
      refine lv_bipush (v := 100) hx hb dX4_look_10 (by decide) ?_
      refine lv_icmp_ge (tgt := 62) hx hb dX4_look_12 (by decide) (fun c_1 => ?_) (fun c_1 => ?_)
      · replace hw := okT hw c_1
        clear c_1
        rw [hQ]
        exact W.vret hx hb hr (fun t ht hW => ⟨⟨o_fars, rfl, okS hw, by rw [ht]; exact hP, va_K.moved hW.alike hK, hD⟩, hS.F ht⟩) hS.2.2 dX4_look_62
      · replace hw := okF hw c_1
        clear c_1
        refine lv_iload_n hx hb dX4_look_15 rfl (lv_at hl 2 rfl) ?_
        refine lv_bipush (v := 10) hx hb dX4_look_16 (by decide) ?_
        refine lv_idiv hx hb dX4_look_18 (by decide) ?_
        refine lv_iload_n hx hb dX4_look_19 rfl (lv_at hl 1 rfl) ?_
        refine lv_bipush (v := 10) hx hb dX4_look_20 (by decide) ?_
        refine lv_idiv hx hb dX4_look_22 (by decide) ?_
        refine lv_isub hx hb dX4_look_23 ?_
        refine lv_topi (fun x_2 ex_2 => ?_)
        replace hw := okN ex_2 hw
        clear ex_2
        refine lv_istore_n (lv' := [(3, .int x_2), (0, .ref h_o), (1, .int v1), (2, .int v2)]) hx hb dX4_look_24 rfl hl (by decide) rfl (fun ls hl => ?_)
        refine lv_iload_n hx hb dX4_look_25 rfl (lv_at hl 3 rfl) ?_
        refine lv_bipush (v := 10) hx hb dX4_look_26 (by decide) ?_
        refine lv_irem hx hb dX4_look_28 (by decide) ?_
        refine lv_iload_n hx hb dX4_look_29 rfl (lv_at hl 2 rfl) ?_
        refine lv_bipush (v := 10) hx hb dX4_look_30 (by decide) ?_
        refine lv_irem hx hb dX4_look_32 (by decide) ?_
        refine lv_isub hx hb dX4_look_33 ?_
        refine lv_topi (fun x_3 ex_3 => ?_)
        replace hw := okN ex_3 hw
        clear ex_3
        refine lv_istore (lv' := [(4, .int x_3), (3, .int x_2), (0, .ref h_o), (1, .int v1), (2, .int v2)]) hx hb dX4_look_34 hl (by decide) rfl (fun ls hl => ?_)
        refine lv_aload_n hx hb dX4_look_36 rfl (lv_at hl 2 rfl) ?_
        refine va_get (D := (dC, dI)) (ci := 4) (v := .ref a_o_fars) (C := RX4) (T := TX4) (N := 16) hx hb hts hi4 hown hK hP 0 rfl rfl 6 (by decide) hq0 (fun _ h9 => h9) rfl dX4_look_37 ?_
        refine lv_iload_n hx hb dX4_look_40 rfl (lv_at hl 4 rfl) ?_
        refine lv_iconst (v := 4) hx hb dX4_look_41 (by decide) ?_
        refine lv_iload_n hx hb dX4_look_42 rfl (lv_at hl 1 rfl) ?_
        refine lv_iload_n hx hb dX4_look_43 rfl (lv_at hl 1 rfl) ?_
        refine lv_imul hx hb dX4_look_44 ?_
        refine lv_iload hx hb dX4_look_45 (lv_at hl 0 rfl) ?_
        refine lv_iload hx hb dX4_look_47 (lv_at hl 0 rfl) ?_
        refine lv_imul hx hb dX4_look_49 ?_
        refine lv_iadd hx hb dX4_look_50 ?_
        refine lv_imul hx hb dX4_look_51 ?_
        have hFc := va_free (wc := []) hD hS hA [] rfl
        refine kp_i (va_runS (As := [.int (4 * ((x_2 * x_2) + (x_3 * x_3)))]) (rest := [.int v2, .ref a_o_fars]) ⟨hx, hb, hml, hown, hts⟩ (c_X4_wholeRoot l dC dI cyI cyJ cyO H.size (4 * ((x_2 * x_2) + (x_3 * x_3))) _ (okb1 hw)) (va_cwS 1 hts (gdS (fun w h => List.mem_cons_of_mem _ h) q_29 q_30 q_2 q_31) rfl rfl rfl (by decide +kernel) ⟨Nat.le_of_ble_eq_true rfl, Nat.le_of_ble_eq_true rfl⟩) (kpre zN_ok hK va_P0 va_D0 trivial hS hFc) rfl rfl hl.1 rfl (lv_room (Nat.le_of_ble_eq_true rfl)) dX4_look_52 ⟨Nat.le_of_ble_eq_true rfl, Nat.le_of_ble_eq_true rfl⟩) hP hD hS hFc (fun r_4 H locs hw hP hS => ?_)
        try dsimp only at hw
        clear hFc
        obtain ⟨h_5, hw⟩ := okC hw
        refine va_iast (i := v2) (x := r_4) hx hb hK hP hD hS 2 0 rfl rfl h_5 dX4_look_55 (fun H locs hP hD hS => ?_)
        have hP : va_P (dC, dI) vwCl (W_X4_look cyI cyJ cyO h_o a_o_settings a_o_howFar a_o_tones a_o_currents a_o_warmths a_o_depths a_o_fars a_o_pieceCells a_o_pieceMonths a_o_pieceHighs a_o_pieceAges a_o_pieceNeeds a_o_dragCells a_o_dragEighths o_pieceCount o_dragCount o_settings (upd o_fars v2.toNatClampNeg r_4)) H := hP
        have hD : va_D A (W_X4_look cyI cyJ cyO h_o a_o_settings a_o_howFar a_o_tones a_o_currents a_o_warmths a_o_depths a_o_fars a_o_pieceCells a_o_pieceMonths a_o_pieceHighs a_o_pieceAges a_o_pieceNeeds a_o_dragCells a_o_dragEighths o_pieceCount o_dragCount o_settings (upd o_fars v2.toNatClampNeg r_4)) := hD
        obtain ⟨x_6, ex_6⟩ : ∃ y : Int32, y = v2 + 1 := ⟨_, rfl⟩
        replace hw := okN ex_6 hw
        refine lv_iinc (v := x_6) (lv' := [(2, .int x_6), (4, .int x_3), (3, .int x_2), (0, .ref h_o), (1, .int v1)]) hx hb dX4_look_56 hl (k := 4) rfl (by rw [ex_6]; rfl) (by decide) rfl (fun ls hl => ?_)
        clear ex_6
        refine lv_goto (tgt := 9) hx hb dX4_look_59 (by decide) ?_
        exact ih9 v1 x_6 (upd o_fars v2.toNatClampNeg r_4) _ _ hP hD hS _ (lv_sub hl [3, 4, 0] rfl) hw
  unfold f_X4_look at hw
  have hP : va_P (dC, dI) vwCl (W_X4_look cyI cyJ cyO h_o a_o_settings a_o_howFar a_o_tones a_o_currents a_o_warmths a_o_depths a_o_fars a_o_pieceCells a_o_pieceMonths a_o_pieceHighs a_o_pieceAges a_o_pieceNeeds a_o_dragCells a_o_dragEighths o_pieceCount o_dragCount o_settings o_fars) s.heap := hP
  obtain ⟨H, hH⟩ : ∃ H, H = s.heap := ⟨_, rfl⟩
  obtain ⟨locs, hlo⟩ : ∃ x : List Loc, x = [] := ⟨_, rfl⟩
  have hP : va_P (dC, dI) vwCl (W_X4_look cyI cyJ cyO h_o a_o_settings a_o_howFar a_o_tones a_o_currents a_o_warmths a_o_depths a_o_fars a_o_pieceCells a_o_pieceMonths a_o_pieceHighs a_o_pieceAges a_o_pieceNeeds a_o_dragCells a_o_dragEighths o_pieceCount o_dragCount o_settings o_fars) H := by rw [hH]; exact hP
  have hS : va_S A s.heap H locs := by rw [hH, hlo]; exact hS
  refine kH hH hlo ?_
  clear hH hlo
  refine lv_aload_n hx hb dX4_look_0 rfl (lv_at hl 0 rfl) ?_
  refine va_get (D := (dC, dI)) (ci := 4) (v := .ref a_o_settings) (C := RX4) (T := TX4) (N := 16) hx hb hts hi4 hown hK hP 0 rfl rfl 0 (by decide) hq2 (fun _ h9 => h9) rfl dX4_look_1 ?_
  refine lv_iconst (v := 0) hx hb dX4_look_4 (by decide) ?_
  refine va_iald (i := 0) hx hb hK hP 1 0 rfl rfl (show ¬ _ by decide) dX4_look_5 ?_
  refine lv_topi (fun x_7 ex_7 => ?_)
  replace hw := okN ex_7 hw
  clear ex_7
  refine lv_istore_n (lv' := [(1, .int x_7), (0, .ref h_o)]) hx hb dX4_look_6 rfl hl (by decide) rfl (fun ls hl => ?_)
  refine lv_iconst (v := 0) hx hb dX4_look_7 (by decide) ?_
  refine lv_istore_n (lv' := [(2, .int 0), (1, .int x_7), (0, .ref h_o)]) hx hb dX4_look_8 rfl hl (by decide) rfl (fun ls hl => ?_)
  exact w9 FU x_7 0 o_fars _ _ hP hD hS _ (lv_sub hl [2, 1, 0] rfl) hw
/-! ===== X4_take ===== -/
theorem dX4_take_0 : decode cX4_take 0 = .ok (.aload_n 1, 1) := by decide +kernel
theorem dX4_take_1 : decode cX4_take 1 = .ok (.getfield 9, 3) := by decide +kernel
theorem dX4_take_4 : decode cX4_take 4 = .ok (.iconst 0, 1) := by decide +kernel
theorem dX4_take_5 : decode cX4_take 5 = .ok (.aload_n 0, 1) := by decide +kernel
theorem dX4_take_6 : decode cX4_take 6 = .ok (.getfield 9, 3) := by decide +kernel
theorem dX4_take_9 : decode cX4_take 9 = .ok (.iconst 0, 1) := by decide +kernel
theorem dX4_take_10 : decode cX4_take 10 = .ok (.bipush 8, 2) := by decide +kernel
theorem dX4_take_12 : decode cX4_take 12 = .ok (.invokestatic 64, 3) := by decide +kernel
theorem dX4_take_15 : decode cX4_take 15 = .ok (.aload_n 1, 1) := by decide +kernel
theorem dX4_take_16 : decode cX4_take 16 = .ok (.getfield 15, 3) := by decide +kernel
theorem dX4_take_19 : decode cX4_take 19 = .ok (.iconst 0, 1) := by decide +kernel
theorem dX4_take_20 : decode cX4_take 20 = .ok (.aload_n 0, 1) := by decide +kernel
theorem dX4_take_21 : decode cX4_take 21 = .ok (.getfield 15, 3) := by decide +kernel
theorem dX4_take_24 : decode cX4_take 24 = .ok (.iconst 0, 1) := by decide +kernel
theorem dX4_take_25 : decode cX4_take 25 = .ok (.bipush 7, 2) := by decide +kernel
theorem dX4_take_27 : decode cX4_take 27 = .ok (.invokestatic 64, 3) := by decide +kernel
theorem dX4_take_30 : decode cX4_take 30 = .ok (.aload_n 1, 1) := by decide +kernel
theorem dX4_take_31 : decode cX4_take 31 = .ok (.getfield 18, 3) := by decide +kernel
theorem dX4_take_34 : decode cX4_take 34 = .ok (.iconst 0, 1) := by decide +kernel
theorem dX4_take_35 : decode cX4_take 35 = .ok (.aload_n 0, 1) := by decide +kernel
theorem dX4_take_36 : decode cX4_take 36 = .ok (.getfield 18, 3) := by decide +kernel
theorem dX4_take_39 : decode cX4_take 39 = .ok (.iconst 0, 1) := by decide +kernel
theorem dX4_take_40 : decode cX4_take 40 = .ok (.bipush 7, 2) := by decide +kernel
theorem dX4_take_42 : decode cX4_take 42 = .ok (.invokestatic 64, 3) := by decide +kernel
theorem dX4_take_45 : decode cX4_take 45 = .ok (.aload_n 1, 1) := by decide +kernel
theorem dX4_take_46 : decode cX4_take 46 = .ok (.getfield 21, 3) := by decide +kernel
theorem dX4_take_49 : decode cX4_take 49 = .ok (.iconst 0, 1) := by decide +kernel
theorem dX4_take_50 : decode cX4_take 50 = .ok (.aload_n 0, 1) := by decide +kernel
theorem dX4_take_51 : decode cX4_take 51 = .ok (.getfield 21, 3) := by decide +kernel
theorem dX4_take_54 : decode cX4_take 54 = .ok (.iconst 0, 1) := by decide +kernel
theorem dX4_take_55 : decode cX4_take 55 = .ok (.sipush 200, 3) := by decide +kernel
theorem dX4_take_58 : decode cX4_take 58 = .ok (.invokestatic 64, 3) := by decide +kernel
theorem dX4_take_61 : decode cX4_take 61 = .ok (.aload_n 1, 1) := by decide +kernel
theorem dX4_take_62 : decode cX4_take 62 = .ok (.getfield 24, 3) := by decide +kernel
theorem dX4_take_65 : decode cX4_take 65 = .ok (.iconst 0, 1) := by decide +kernel
theorem dX4_take_66 : decode cX4_take 66 = .ok (.aload_n 0, 1) := by decide +kernel
theorem dX4_take_67 : decode cX4_take 67 = .ok (.getfield 24, 3) := by decide +kernel
theorem dX4_take_70 : decode cX4_take 70 = .ok (.iconst 0, 1) := by decide +kernel
theorem dX4_take_71 : decode cX4_take 71 = .ok (.sipush 200, 3) := by decide +kernel
theorem dX4_take_74 : decode cX4_take 74 = .ok (.invokestatic 64, 3) := by decide +kernel
theorem dX4_take_77 : decode cX4_take 77 = .ok (.aload_n 1, 1) := by decide +kernel
theorem dX4_take_78 : decode cX4_take 78 = .ok (.getfield 27, 3) := by decide +kernel
theorem dX4_take_81 : decode cX4_take 81 = .ok (.iconst 0, 1) := by decide +kernel
theorem dX4_take_82 : decode cX4_take 82 = .ok (.aload_n 0, 1) := by decide +kernel
theorem dX4_take_83 : decode cX4_take 83 = .ok (.getfield 27, 3) := by decide +kernel
theorem dX4_take_86 : decode cX4_take 86 = .ok (.iconst 0, 1) := by decide +kernel
theorem dX4_take_87 : decode cX4_take 87 = .ok (.bipush 100, 2) := by decide +kernel
theorem dX4_take_89 : decode cX4_take 89 = .ok (.invokestatic 64, 3) := by decide +kernel
theorem dX4_take_92 : decode cX4_take 92 = .ok (.aload_n 1, 1) := by decide +kernel
theorem dX4_take_93 : decode cX4_take 93 = .ok (.getfield 30, 3) := by decide +kernel
theorem dX4_take_96 : decode cX4_take 96 = .ok (.iconst 0, 1) := by decide +kernel
theorem dX4_take_97 : decode cX4_take 97 = .ok (.aload_n 0, 1) := by decide +kernel
theorem dX4_take_98 : decode cX4_take 98 = .ok (.getfield 30, 3) := by decide +kernel
theorem dX4_take_101 : decode cX4_take 101 = .ok (.iconst 0, 1) := by decide +kernel
theorem dX4_take_102 : decode cX4_take 102 = .ok (.bipush 100, 2) := by decide +kernel
theorem dX4_take_104 : decode cX4_take 104 = .ok (.invokestatic 64, 3) := by decide +kernel
theorem dX4_take_107 : decode cX4_take 107 = .ok (.aload_n 1, 1) := by decide +kernel
theorem dX4_take_108 : decode cX4_take 108 = .ok (.getfield 33, 3) := by decide +kernel
theorem dX4_take_111 : decode cX4_take 111 = .ok (.iconst 0, 1) := by decide +kernel
theorem dX4_take_112 : decode cX4_take 112 = .ok (.aload_n 0, 1) := by decide +kernel
theorem dX4_take_113 : decode cX4_take 113 = .ok (.getfield 33, 3) := by decide +kernel
theorem dX4_take_116 : decode cX4_take 116 = .ok (.iconst 0, 1) := by decide +kernel
theorem dX4_take_117 : decode cX4_take 117 = .ok (.iconst 4, 1) := by decide +kernel
theorem dX4_take_118 : decode cX4_take 118 = .ok (.invokestatic 64, 3) := by decide +kernel
theorem dX4_take_121 : decode cX4_take 121 = .ok (.aload_n 1, 1) := by decide +kernel
theorem dX4_take_122 : decode cX4_take 122 = .ok (.getfield 36, 3) := by decide +kernel
theorem dX4_take_125 : decode cX4_take 125 = .ok (.iconst 0, 1) := by decide +kernel
theorem dX4_take_126 : decode cX4_take 126 = .ok (.aload_n 0, 1) := by decide +kernel
theorem dX4_take_127 : decode cX4_take 127 = .ok (.getfield 36, 3) := by decide +kernel
theorem dX4_take_130 : decode cX4_take 130 = .ok (.iconst 0, 1) := by decide +kernel
theorem dX4_take_131 : decode cX4_take 131 = .ok (.iconst 4, 1) := by decide +kernel
theorem dX4_take_132 : decode cX4_take 132 = .ok (.invokestatic 64, 3) := by decide +kernel
theorem dX4_take_135 : decode cX4_take 135 = .ok (.aload_n 1, 1) := by decide +kernel
theorem dX4_take_136 : decode cX4_take 136 = .ok (.getfield 39, 3) := by decide +kernel
theorem dX4_take_139 : decode cX4_take 139 = .ok (.iconst 0, 1) := by decide +kernel
theorem dX4_take_140 : decode cX4_take 140 = .ok (.aload_n 0, 1) := by decide +kernel
theorem dX4_take_141 : decode cX4_take 141 = .ok (.getfield 39, 3) := by decide +kernel
theorem dX4_take_144 : decode cX4_take 144 = .ok (.iconst 0, 1) := by decide +kernel
theorem dX4_take_145 : decode cX4_take 145 = .ok (.iconst 4, 1) := by decide +kernel
theorem dX4_take_146 : decode cX4_take 146 = .ok (.invokestatic 64, 3) := by decide +kernel
theorem dX4_take_149 : decode cX4_take 149 = .ok (.aload_n 1, 1) := by decide +kernel
theorem dX4_take_150 : decode cX4_take 150 = .ok (.getfield 42, 3) := by decide +kernel
theorem dX4_take_153 : decode cX4_take 153 = .ok (.iconst 0, 1) := by decide +kernel
theorem dX4_take_154 : decode cX4_take 154 = .ok (.aload_n 0, 1) := by decide +kernel
theorem dX4_take_155 : decode cX4_take 155 = .ok (.getfield 42, 3) := by decide +kernel
theorem dX4_take_158 : decode cX4_take 158 = .ok (.iconst 0, 1) := by decide +kernel
theorem dX4_take_159 : decode cX4_take 159 = .ok (.iconst 4, 1) := by decide +kernel
theorem dX4_take_160 : decode cX4_take 160 = .ok (.invokestatic 64, 3) := by decide +kernel
theorem dX4_take_163 : decode cX4_take 163 = .ok (.aload_n 1, 1) := by decide +kernel
theorem dX4_take_164 : decode cX4_take 164 = .ok (.getfield 45, 3) := by decide +kernel
theorem dX4_take_167 : decode cX4_take 167 = .ok (.iconst 0, 1) := by decide +kernel
theorem dX4_take_168 : decode cX4_take 168 = .ok (.aload_n 0, 1) := by decide +kernel
theorem dX4_take_169 : decode cX4_take 169 = .ok (.getfield 45, 3) := by decide +kernel
theorem dX4_take_172 : decode cX4_take 172 = .ok (.iconst 0, 1) := by decide +kernel
theorem dX4_take_173 : decode cX4_take 173 = .ok (.iconst 4, 1) := by decide +kernel
theorem dX4_take_174 : decode cX4_take 174 = .ok (.invokestatic 64, 3) := by decide +kernel
theorem dX4_take_177 : decode cX4_take 177 = .ok (.aload_n 1, 1) := by decide +kernel
theorem dX4_take_178 : decode cX4_take 178 = .ok (.getfield 48, 3) := by decide +kernel
theorem dX4_take_181 : decode cX4_take 181 = .ok (.iconst 0, 1) := by decide +kernel
theorem dX4_take_182 : decode cX4_take 182 = .ok (.aload_n 0, 1) := by decide +kernel
theorem dX4_take_183 : decode cX4_take 183 = .ok (.getfield 48, 3) := by decide +kernel
theorem dX4_take_186 : decode cX4_take 186 = .ok (.iconst 0, 1) := by decide +kernel
theorem dX4_take_187 : decode cX4_take 187 = .ok (.iconst 4, 1) := by decide +kernel
theorem dX4_take_188 : decode cX4_take 188 = .ok (.invokestatic 64, 3) := by decide +kernel
theorem dX4_take_191 : decode cX4_take 191 = .ok (.aload_n 1, 1) := by decide +kernel
theorem dX4_take_192 : decode cX4_take 192 = .ok (.getfield 51, 3) := by decide +kernel
theorem dX4_take_195 : decode cX4_take 195 = .ok (.iconst 0, 1) := by decide +kernel
theorem dX4_take_196 : decode cX4_take 196 = .ok (.aload_n 0, 1) := by decide +kernel
theorem dX4_take_197 : decode cX4_take 197 = .ok (.getfield 51, 3) := by decide +kernel
theorem dX4_take_200 : decode cX4_take 200 = .ok (.iconst 0, 1) := by decide +kernel
theorem dX4_take_201 : decode cX4_take 201 = .ok (.iconst 4, 1) := by decide +kernel
theorem dX4_take_202 : decode cX4_take 202 = .ok (.invokestatic 64, 3) := by decide +kernel
theorem dX4_take_205 : decode cX4_take 205 = .ok (.aload_n 0, 1) := by decide +kernel
theorem dX4_take_206 : decode cX4_take 206 = .ok (.aload_n 1, 1) := by decide +kernel
theorem dX4_take_207 : decode cX4_take 207 = .ok (.getfield 54, 3) := by decide +kernel
theorem dX4_take_210 : decode cX4_take 210 = .ok (.putfield 54, 3) := by decide +kernel
theorem dX4_take_213 : decode cX4_take 213 = .ok (.aload_n 0, 1) := by decide +kernel
theorem dX4_take_214 : decode cX4_take 214 = .ok (.aload_n 1, 1) := by decide +kernel
theorem dX4_take_215 : decode cX4_take 215 = .ok (.getfield 58, 3) := by decide +kernel
theorem dX4_take_218 : decode cX4_take 218 = .ok (.putfield 58, 3) := by decide +kernel
theorem dX4_take_221 : decode cX4_take 221 = .ok (.return_, 1) := by decide +kernel
abbrev W_X4_take (cyI cyJ cyO : ClassId) (h_o h_p1 a_o_settings a_o_howFar a_o_tones a_o_currents a_o_warmths a_o_depths a_o_fars a_o_pieceCells a_o_pieceMonths a_o_pieceHighs a_o_pieceAges a_o_pieceNeeds a_o_dragCells a_o_dragEighths a_p1_settings a_p1_howFar a_p1_tones a_p1_currents a_p1_warmths a_p1_depths a_p1_fars a_p1_pieceCells a_p1_pieceMonths a_p1_pieceHighs a_p1_pieceAges a_p1_pieceNeeds a_p1_dragCells a_p1_dragEighths : Nat) (o_pieceCount : Int32) (o_dragCount : Int32) (o_settings : Nat → Int32) (o_howFar : Nat → Int32) (o_tones : Nat → Int32) (o_currents : Nat → Int32) (o_warmths : Nat → Int32) (o_depths : Nat → Int32) (o_fars : Nat → Int32) (o_pieceCells : Nat → Int32) (o_pieceMonths : Nat → Int32) (o_pieceHighs : Nat → Int32) (o_pieceAges : Nat → Int32) (o_pieceNeeds : Nat → Int32) (o_dragCells : Nat → Int32) (o_dragEighths : Nat → Int32) (p1_pieceCount : Int32) (p1_dragCount : Int32) (p1_settings : Nat → Int32) (p1_howFar : Nat → Int32) (p1_tones : Nat → Int32) (p1_currents : Nat → Int32) (p1_warmths : Nat → Int32) (p1_depths : Nat → Int32) (p1_fars : Nat → Int32) (p1_pieceCells : Nat → Int32) (p1_pieceMonths : Nat → Int32) (p1_pieceHighs : Nat → Int32) (p1_pieceAges : Nat → Int32) (p1_pieceNeeds : Nat → Int32) (p1_dragCells : Nat → Int32) (p1_dragEighths : Nat → Int32) : va_W := [(h_o, .inr (4, [.ref a_o_settings, .ref a_o_howFar, .ref a_o_tones, .ref a_o_currents, .ref a_o_warmths, .ref a_o_depths, .ref a_o_fars, .ref a_o_pieceCells, .ref a_o_pieceMonths, .ref a_o_pieceHighs, .ref a_o_pieceAges, .ref a_o_pieceNeeds, .ref a_o_dragCells, .ref a_o_dragEighths, .int o_pieceCount, .int o_dragCount])), (a_o_settings, .inl (cyI, 8, .inl o_settings)), (a_o_howFar, .inl (cyI, 7, .inl o_howFar)), (a_o_tones, .inl (cyI, 7, .inl o_tones)), (a_o_currents, .inl (cyI, 200, .inl o_currents)), (a_o_warmths, .inl (cyI, 200, .inl o_warmths)), (a_o_depths, .inl (cyI, 100, .inl o_depths)), (a_o_fars, .inl (cyI, 100, .inl o_fars)), (a_o_pieceCells, .inl (cyI, 4, .inl o_pieceCells)), (a_o_pieceMonths, .inl (cyI, 4, .inl o_pieceMonths)), (a_o_pieceHighs, .inl (cyI, 4, .inl o_pieceHighs)), (a_o_pieceAges, .inl (cyI, 4, .inl o_pieceAges)), (a_o_pieceNeeds, .inl (cyI, 4, .inl o_pieceNeeds)), (a_o_dragCells, .inl (cyI, 4, .inl o_dragCells)), (a_o_dragEighths, .inl (cyI, 4, .inl o_dragEighths)), (h_p1, .inr (4, [.ref a_p1_settings, .ref a_p1_howFar, .ref a_p1_tones, .ref a_p1_currents, .ref a_p1_warmths, .ref a_p1_depths, .ref a_p1_fars, .ref a_p1_pieceCells, .ref a_p1_pieceMonths, .ref a_p1_pieceHighs, .ref a_p1_pieceAges, .ref a_p1_pieceNeeds, .ref a_p1_dragCells, .ref a_p1_dragEighths, .int p1_pieceCount, .int p1_dragCount])), (a_p1_settings, .inl (cyI, 8, .inl p1_settings)), (a_p1_howFar, .inl (cyI, 7, .inl p1_howFar)), (a_p1_tones, .inl (cyI, 7, .inl p1_tones)), (a_p1_currents, .inl (cyI, 200, .inl p1_currents)), (a_p1_warmths, .inl (cyI, 200, .inl p1_warmths)), (a_p1_depths, .inl (cyI, 100, .inl p1_depths)), (a_p1_fars, .inl (cyI, 100, .inl p1_fars)), (a_p1_pieceCells, .inl (cyI, 4, .inl p1_pieceCells)), (a_p1_pieceMonths, .inl (cyI, 4, .inl p1_pieceMonths)), (a_p1_pieceHighs, .inl (cyI, 4, .inl p1_pieceHighs)), (a_p1_pieceAges, .inl (cyI, 4, .inl p1_pieceAges)), (a_p1_pieceNeeds, .inl (cyI, 4, .inl p1_pieceNeeds)), (a_p1_dragCells, .inl (cyI, 4, .inl p1_dragCells)), (a_p1_dragEighths, .inl (cyI, 4, .inl p1_dragEighths))]
def f_X4_take (o_pieceCount : Int32) (o_dragCount : Int32) (o_settings : Nat → Int32) (o_howFar : Nat → Int32) (o_tones : Nat → Int32) (o_currents : Nat → Int32) (o_warmths : Nat → Int32) (o_depths : Nat → Int32) (o_fars : Nat → Int32) (o_pieceCells : Nat → Int32) (o_pieceMonths : Nat → Int32) (o_pieceHighs : Nat → Int32) (o_pieceAges : Nat → Int32) (o_pieceNeeds : Nat → Int32) (o_dragCells : Nat → Int32) (o_dragEighths : Nat → Int32) (p1_pieceCount : Int32) (p1_dragCount : Int32) (p1_settings : Nat → Int32) (p1_howFar : Nat → Int32) (p1_tones : Nat → Int32) (p1_currents : Nat → Int32) (p1_warmths : Nat → Int32) (p1_depths : Nat → Int32) (p1_fars : Nat → Int32) (p1_pieceCells : Nat → Int32) (p1_pieceMonths : Nat → Int32) (p1_pieceHighs : Nat → Int32) (p1_pieceAges : Nat → Int32) (p1_pieceNeeds : Nat → Int32) (p1_dragCells : Nat → Int32) (p1_dragEighths : Nat → Int32) : Option (Int32 × Int32 × (Nat → Int32) × (Nat → Int32) × (Nat → Int32) × (Nat → Int32) × (Nat → Int32) × (Nat → Int32) × (Nat → Int32) × (Nat → Int32) × (Nat → Int32) × (Nat → Int32) × (Nat → Int32) × (Nat → Int32) × (Nat → Int32) × (Nat → Int32)) :=
  some (p1_pieceCount, p1_dragCount, va_cpy p1_settings o_settings 0 0 8, va_cpy p1_howFar o_howFar 0 0 7, va_cpy p1_tones o_tones 0 0 7, va_cpy p1_currents o_currents 0 0 200, va_cpy p1_warmths o_warmths 0 0 200, va_cpy p1_depths o_depths 0 0 100, va_cpy p1_fars o_fars 0 0 100, va_cpy p1_pieceCells o_pieceCells 0 0 4, va_cpy p1_pieceMonths o_pieceMonths 0 0 4, va_cpy p1_pieceHighs o_pieceHighs 0 0 4, va_cpy p1_pieceAges o_pieceAges 0 0 4, va_cpy p1_pieceNeeds o_pieceNeeds 0 0 4, va_cpy p1_dragCells o_dragCells 0 0 4, va_cpy p1_dragEighths o_dragEighths 0 0 4)
abbrev rm_X4_take : Room := { frames := 1, cells := 0, slots := 0, locals := 26 }
set_option maxRecDepth 100000 in
set_option maxHeartbeats 4000000 in
theorem c_X4_take (l : Launch) (dC : Nat → ClassId) (dI : Nat → Nat → Nat) (cyI cyJ cyO : ClassId) (sz : Nat) (h_o h_p1 a_o_settings a_o_howFar a_o_tones a_o_currents a_o_warmths a_o_depths a_o_fars a_o_pieceCells a_o_pieceMonths a_o_pieceHighs a_o_pieceAges a_o_pieceNeeds a_o_dragCells a_o_dragEighths a_p1_settings a_p1_howFar a_p1_tones a_p1_currents a_p1_warmths a_p1_depths a_p1_fars a_p1_pieceCells a_p1_pieceMonths a_p1_pieceHighs a_p1_pieceAges a_p1_pieceNeeds a_p1_dragCells a_p1_dragEighths : Nat) (o_pieceCount : Int32) (o_dragCount : Int32) (o_settings : Nat → Int32) (o_howFar : Nat → Int32) (o_tones : Nat → Int32) (o_currents : Nat → Int32) (o_warmths : Nat → Int32) (o_depths : Nat → Int32) (o_fars : Nat → Int32) (o_pieceCells : Nat → Int32) (o_pieceMonths : Nat → Int32) (o_pieceHighs : Nat → Int32) (o_pieceAges : Nat → Int32) (o_pieceNeeds : Nat → Int32) (o_dragCells : Nat → Int32) (o_dragEighths : Nat → Int32) (p1_pieceCount : Int32) (p1_dragCount : Int32) (p1_settings : Nat → Int32) (p1_howFar : Nat → Int32) (p1_tones : Nat → Int32) (p1_currents : Nat → Int32) (p1_warmths : Nat → Int32) (p1_depths : Nat → Int32) (p1_fars : Nat → Int32) (p1_pieceCells : Nat → Int32) (p1_pieceMonths : Nat → Int32) (p1_pieceHighs : Nat → Int32) (p1_pieceAges : Nat → Int32) (p1_pieceNeeds : Nat → Int32) (p1_dragCells : Nat → Int32) (p1_dragEighths : Nat → Int32) (post : (Int32 × Int32 × (Nat → Int32) × (Nat → Int32) × (Nat → Int32) × (Nat → Int32) × (Nat → Int32) × (Nat → Int32) × (Nat → Int32) × (Nat → Int32) × (Nat → Int32) × (Nat → Int32) × (Nat → Int32) × (Nat → Int32) × (Nat → Int32) × (Nat → Int32)) → Prop) (hf : okP (f_X4_take o_pieceCount o_dragCount o_settings o_howFar o_tones o_currents o_warmths o_depths o_fars o_pieceCells o_pieceMonths o_pieceHighs o_pieceAges o_pieceNeeds o_dragCells o_dragEighths p1_pieceCount p1_dragCount p1_settings p1_howFar p1_tones p1_currents p1_warmths p1_depths p1_fars p1_pieceCells p1_pieceMonths p1_pieceHighs p1_pieceAges p1_pieceNeeds p1_dragCells p1_dragEighths) post) : Cv l (dC, dI) (tyL cyI cyJ cyO) yX4_take wsX4_take rm_X4_take [.ref h_o, .ref h_p1] sz (W_X4_take cyI cyJ cyO h_o h_p1 a_o_settings a_o_howFar a_o_tones a_o_currents a_o_warmths a_o_depths a_o_fars a_o_pieceCells a_o_pieceMonths a_o_pieceHighs a_o_pieceAges a_o_pieceNeeds a_o_dragCells a_o_dragEighths a_p1_settings a_p1_howFar a_p1_tones a_p1_currents a_p1_warmths a_p1_depths a_p1_fars a_p1_pieceCells a_p1_pieceMonths a_p1_pieceHighs a_p1_pieceAges a_p1_pieceNeeds a_p1_dragCells a_p1_dragEighths o_pieceCount o_dragCount o_settings o_howFar o_tones o_currents o_warmths o_depths o_fars o_pieceCells o_pieceMonths o_pieceHighs o_pieceAges o_pieceNeeds o_dragCells o_dragEighths p1_pieceCount p1_dragCount p1_settings p1_howFar p1_tones p1_currents p1_warmths p1_depths p1_fars p1_pieceCells p1_pieceMonths p1_pieceHighs p1_pieceAges p1_pieceNeeds p1_dragCells p1_dragEighths) zN (fun u => post u) (fun u => (W_X4_take cyI cyJ cyO h_o h_p1 a_o_settings a_o_howFar a_o_tones a_o_currents a_o_warmths a_o_depths a_o_fars a_o_pieceCells a_o_pieceMonths a_o_pieceHighs a_o_pieceAges a_o_pieceNeeds a_o_dragCells a_o_dragEighths a_p1_settings a_p1_howFar a_p1_tones a_p1_currents a_p1_warmths a_p1_depths a_p1_fars a_p1_pieceCells a_p1_pieceMonths a_p1_pieceHighs a_p1_pieceAges a_p1_pieceNeeds a_p1_dragCells a_p1_dragEighths u.1 u.2.1 u.2.2.1 u.2.2.2.1 u.2.2.2.2.1 u.2.2.2.2.2.1 u.2.2.2.2.2.2.1 u.2.2.2.2.2.2.2.1 u.2.2.2.2.2.2.2.2.1 u.2.2.2.2.2.2.2.2.2.1 u.2.2.2.2.2.2.2.2.2.2.1 u.2.2.2.2.2.2.2.2.2.2.2.1 u.2.2.2.2.2.2.2.2.2.2.2.2.1 u.2.2.2.2.2.2.2.2.2.2.2.2.2.1 u.2.2.2.2.2.2.2.2.2.2.2.2.2.2.1 u.2.2.2.2.2.2.2.2.2.2.2.2.2.2.2 p1_pieceCount p1_dragCount p1_settings p1_howFar p1_tones p1_currents p1_warmths p1_depths p1_fars p1_pieceCells p1_pieceMonths p1_pieceHighs p1_pieceAges p1_pieceNeeds p1_dragCells p1_dragEighths)) := by
  refine Met.ofW (cc := cX4_take) (maxL := 2) (ret := none) (by decide) rfl ?_
  intro p e s m args below meth c s₁ B hml hv
  obtain ⟨rfl, hsz, hP, hK, hD0, hZ⟩ := hv
  have hx := B.exec
  have hb := B.bytes
  have hr := B.returns
  have hts := atoms_spec (ws := wsX4_take) B.pre
  have hown : s.vm.findClass RX4 = some m.cls := findClass_of_methodNamed B.named
  have hlocks := B.notSynchronized
  subst hsz
  have hD := hD0.self (sz := s.heap.size)
  generalize hAe : va_A (W_X4_take cyI cyJ cyO h_o h_p1 a_o_settings a_o_howFar a_o_tones a_o_currents a_o_warmths a_o_depths a_o_fars a_o_pieceCells a_o_pieceMonths a_o_pieceHighs a_o_pieceAges a_o_pieceNeeds a_o_dragCells a_o_dragEighths a_p1_settings a_p1_howFar a_p1_tones a_p1_currents a_p1_warmths a_p1_depths a_p1_fars a_p1_pieceCells a_p1_pieceMonths a_p1_pieceHighs a_p1_pieceAges a_p1_pieceNeeds a_p1_dragCells a_p1_dragEighths o_pieceCount o_dragCount o_settings o_howFar o_tones o_currents o_warmths o_depths o_fars o_pieceCells o_pieceMonths o_pieceHighs o_pieceAges o_pieceNeeds o_dragCells o_dragEighths p1_pieceCount p1_dragCount p1_settings p1_howFar p1_tones p1_currents p1_warmths p1_depths p1_fars p1_pieceCells p1_pieceMonths p1_pieceHighs p1_pieceAges p1_pieceNeeds p1_dragCells p1_dragEighths) s.heap.size = A at hD hZ ⊢
  have hA : ∀ q : Nat, s.heap.size ≤ q → A q := fun q h => by rw [← hAe]; exact Or.inr h
  clear hAe hD0
  have hS : va_S A s.heap s.heap [] := va_S.rf
  have hl := lv_entry ([.ref h_o, .ref h_p1]) (n := 2) (Nat.le_of_ble_eq_true rfl)
  rw [lg_entry_eq]
  generalize (lg_sl ([.ref h_o, .ref h_p1]) ++ List.replicate (2 - (lg_sl ([.ref h_o, .ref h_p1])).length) Slot.unset).toArray = ls at hl ⊢
  have hl : lv_has ls 2 [(0, .ref h_o), (1, .ref h_p1)] := hl
  refine kW (fun Q hQ => ?_)
  have hq0 := hts _ (List.mem_cons_of_mem _ q_32)
  have hi4 : ∀ w ∈ u_ws RX4 TX4 16, w ∈ wsX4_take := fun w h => List.mem_cons_of_mem _ (inX4 w h)
  have hq2 := hts _ (List.mem_cons_of_mem _ q_662)
  have hq3 := hts _ (List.mem_cons_of_mem _ q_407)
  have hq4 := hts _ (List.mem_cons_of_mem _ q_406)
  have hq5 := hts _ (List.mem_cons_of_mem _ q_10)
  have hq6 := hts _ (List.mem_cons_of_mem _ q_36)
  have hq7 := hts _ (List.mem_cons_of_mem _ q_39)
  have hq8 := hts _ (List.mem_cons_of_mem _ q_42)
  have hq9 := hts _ (List.mem_cons_of_mem _ q_45)
  have hq10 := hts _ (List.mem_cons_of_mem _ q_48)
  have hq11 := hts _ (List.mem_cons_of_mem _ q_50)
  have hq12 := hts _ (List.mem_cons_of_mem _ q_53)
  have hq13 := hts _ (List.mem_cons_of_mem _ q_56)
  have hq14 := hts _ (List.mem_cons_of_mem _ q_59)
  have hq15 := hts _ (List.mem_cons_of_mem _ q_62)
  have hq16 := hts _ (List.mem_cons_of_mem _ q_65)
  have hq17 := hts _ (List.mem_cons_of_mem _ q_68)
  have hq18 := hts _ (List.mem_cons_of_mem _ q_70)
  have hq19 := hts _ (List.mem_cons_of_mem _ q_72)
  have hq20 := hts _ (List.mem_cons_of_mem _ q_75)
  have hw := hf
  unfold f_X4_take at hw
  have hP : va_P (dC, dI) vwCl (W_X4_take cyI cyJ cyO h_o h_p1 a_o_settings a_o_howFar a_o_tones a_o_currents a_o_warmths a_o_depths a_o_fars a_o_pieceCells a_o_pieceMonths a_o_pieceHighs a_o_pieceAges a_o_pieceNeeds a_o_dragCells a_o_dragEighths a_p1_settings a_p1_howFar a_p1_tones a_p1_currents a_p1_warmths a_p1_depths a_p1_fars a_p1_pieceCells a_p1_pieceMonths a_p1_pieceHighs a_p1_pieceAges a_p1_pieceNeeds a_p1_dragCells a_p1_dragEighths o_pieceCount o_dragCount o_settings o_howFar o_tones o_currents o_warmths o_depths o_fars o_pieceCells o_pieceMonths o_pieceHighs o_pieceAges o_pieceNeeds o_dragCells o_dragEighths p1_pieceCount p1_dragCount p1_settings p1_howFar p1_tones p1_currents p1_warmths p1_depths p1_fars p1_pieceCells p1_pieceMonths p1_pieceHighs p1_pieceAges p1_pieceNeeds p1_dragCells p1_dragEighths) s.heap := hP
  obtain ⟨H, hH⟩ : ∃ H, H = s.heap := ⟨_, rfl⟩
  obtain ⟨locs, hlo⟩ : ∃ x : List Loc, x = [] := ⟨_, rfl⟩
  have hP : va_P (dC, dI) vwCl (W_X4_take cyI cyJ cyO h_o h_p1 a_o_settings a_o_howFar a_o_tones a_o_currents a_o_warmths a_o_depths a_o_fars a_o_pieceCells a_o_pieceMonths a_o_pieceHighs a_o_pieceAges a_o_pieceNeeds a_o_dragCells a_o_dragEighths a_p1_settings a_p1_howFar a_p1_tones a_p1_currents a_p1_warmths a_p1_depths a_p1_fars a_p1_pieceCells a_p1_pieceMonths a_p1_pieceHighs a_p1_pieceAges a_p1_pieceNeeds a_p1_dragCells a_p1_dragEighths o_pieceCount o_dragCount o_settings o_howFar o_tones o_currents o_warmths o_depths o_fars o_pieceCells o_pieceMonths o_pieceHighs o_pieceAges o_pieceNeeds o_dragCells o_dragEighths p1_pieceCount p1_dragCount p1_settings p1_howFar p1_tones p1_currents p1_warmths p1_depths p1_fars p1_pieceCells p1_pieceMonths p1_pieceHighs p1_pieceAges p1_pieceNeeds p1_dragCells p1_dragEighths) H := by rw [hH]; exact hP
  have hS : va_S A s.heap H locs := by rw [hH, hlo]; exact hS
  refine kH hH hlo ?_
  clear hH hlo
  refine lv_aload_n hx hb dX4_take_0 rfl (lv_at hl 1 rfl) ?_
  refine va_get (D := (dC, dI)) (ci := 4) (v := .ref a_p1_settings) (C := RX4) (T := TX4) (N := 16) hx hb hts hi4 hown hK hP 15 rfl rfl 0 (by decide) hq0 (fun _ h9 => h9) rfl dX4_take_1 ?_
  refine lv_iconst (v := 0) hx hb dX4_take_4 (by decide) ?_
  refine lv_aload_n hx hb dX4_take_5 rfl (lv_at hl 0 rfl) ?_
  refine va_get (D := (dC, dI)) (ci := 4) (v := .ref a_o_settings) (C := RX4) (T := TX4) (N := 16) hx hb hts hi4 hown hK hP 0 rfl rfl 0 (by decide) hq0 (fun _ h9 => h9) rfl dX4_take_6 ?_
  refine lv_iconst (v := 0) hx hb dX4_take_9 (by decide) ?_
  refine lv_bipush (v := 8) hx hb dX4_take_10 (by decide) ?_
  refine va_copyi (sp := 0) (dp := 0) (n := 8) (ty := .int) hx hb (hml.trans hl.1.symm) hown hq2 hq3 hq4 hq5 hK hP hD hS 16 1 0 0 rfl rfl rfl rfl rfl (by decide) (by decide) (by decide) (by decide) (by decide) (fun _ _ => rfl) (Nat.le_of_ble_eq_true rfl) (Nat.le_of_ble_eq_true rfl) dX4_take_12 (fun H locs hP hD hS => ?_)
  have hP : va_P (dC, dI) vwCl (W_X4_take cyI cyJ cyO h_o h_p1 a_o_settings a_o_howFar a_o_tones a_o_currents a_o_warmths a_o_depths a_o_fars a_o_pieceCells a_o_pieceMonths a_o_pieceHighs a_o_pieceAges a_o_pieceNeeds a_o_dragCells a_o_dragEighths a_p1_settings a_p1_howFar a_p1_tones a_p1_currents a_p1_warmths a_p1_depths a_p1_fars a_p1_pieceCells a_p1_pieceMonths a_p1_pieceHighs a_p1_pieceAges a_p1_pieceNeeds a_p1_dragCells a_p1_dragEighths o_pieceCount o_dragCount (va_cpy p1_settings o_settings 0 0 8) o_howFar o_tones o_currents o_warmths o_depths o_fars o_pieceCells o_pieceMonths o_pieceHighs o_pieceAges o_pieceNeeds o_dragCells o_dragEighths p1_pieceCount p1_dragCount p1_settings p1_howFar p1_tones p1_currents p1_warmths p1_depths p1_fars p1_pieceCells p1_pieceMonths p1_pieceHighs p1_pieceAges p1_pieceNeeds p1_dragCells p1_dragEighths) H := hP
  have hD : va_D A (W_X4_take cyI cyJ cyO h_o h_p1 a_o_settings a_o_howFar a_o_tones a_o_currents a_o_warmths a_o_depths a_o_fars a_o_pieceCells a_o_pieceMonths a_o_pieceHighs a_o_pieceAges a_o_pieceNeeds a_o_dragCells a_o_dragEighths a_p1_settings a_p1_howFar a_p1_tones a_p1_currents a_p1_warmths a_p1_depths a_p1_fars a_p1_pieceCells a_p1_pieceMonths a_p1_pieceHighs a_p1_pieceAges a_p1_pieceNeeds a_p1_dragCells a_p1_dragEighths o_pieceCount o_dragCount (va_cpy p1_settings o_settings 0 0 8) o_howFar o_tones o_currents o_warmths o_depths o_fars o_pieceCells o_pieceMonths o_pieceHighs o_pieceAges o_pieceNeeds o_dragCells o_dragEighths p1_pieceCount p1_dragCount p1_settings p1_howFar p1_tones p1_currents p1_warmths p1_depths p1_fars p1_pieceCells p1_pieceMonths p1_pieceHighs p1_pieceAges p1_pieceNeeds p1_dragCells p1_dragEighths) := hD
  refine lv_aload_n hx hb dX4_take_15 rfl (lv_at hl 1 rfl) ?_
  refine va_get (D := (dC, dI)) (ci := 4) (v := .ref a_p1_howFar) (C := RX4) (T := TX4) (N := 16) hx hb hts hi4 hown hK hP 15 rfl rfl 1 (by decide) hq6 (fun _ h9 => h9) rfl dX4_take_16 ?_
  refine lv_iconst (v := 0) hx hb dX4_take_19 (by decide) ?_
  refine lv_aload_n hx hb dX4_take_20 rfl (lv_at hl 0 rfl) ?_
  refine va_get (D := (dC, dI)) (ci := 4) (v := .ref a_o_howFar) (C := RX4) (T := TX4) (N := 16) hx hb hts hi4 hown hK hP 0 rfl rfl 1 (by decide) hq6 (fun _ h9 => h9) rfl dX4_take_21 ?_
  refine lv_iconst (v := 0) hx hb dX4_take_24 (by decide) ?_
  refine lv_bipush (v := 7) hx hb dX4_take_25 (by decide) ?_
  refine va_copyi (sp := 0) (dp := 0) (n := 7) (ty := .int) hx hb (hml.trans hl.1.symm) hown hq2 hq3 hq4 hq5 hK hP hD hS 17 2 0 0 rfl rfl rfl rfl rfl (by decide) (by decide) (by decide) (by decide) (by decide) (fun _ _ => rfl) (Nat.le_of_ble_eq_true rfl) (Nat.le_of_ble_eq_true rfl) dX4_take_27 (fun H locs hP hD hS => ?_)
  have hP : va_P (dC, dI) vwCl (W_X4_take cyI cyJ cyO h_o h_p1 a_o_settings a_o_howFar a_o_tones a_o_currents a_o_warmths a_o_depths a_o_fars a_o_pieceCells a_o_pieceMonths a_o_pieceHighs a_o_pieceAges a_o_pieceNeeds a_o_dragCells a_o_dragEighths a_p1_settings a_p1_howFar a_p1_tones a_p1_currents a_p1_warmths a_p1_depths a_p1_fars a_p1_pieceCells a_p1_pieceMonths a_p1_pieceHighs a_p1_pieceAges a_p1_pieceNeeds a_p1_dragCells a_p1_dragEighths o_pieceCount o_dragCount (va_cpy p1_settings o_settings 0 0 8) (va_cpy p1_howFar o_howFar 0 0 7) o_tones o_currents o_warmths o_depths o_fars o_pieceCells o_pieceMonths o_pieceHighs o_pieceAges o_pieceNeeds o_dragCells o_dragEighths p1_pieceCount p1_dragCount p1_settings p1_howFar p1_tones p1_currents p1_warmths p1_depths p1_fars p1_pieceCells p1_pieceMonths p1_pieceHighs p1_pieceAges p1_pieceNeeds p1_dragCells p1_dragEighths) H := hP
  have hD : va_D A (W_X4_take cyI cyJ cyO h_o h_p1 a_o_settings a_o_howFar a_o_tones a_o_currents a_o_warmths a_o_depths a_o_fars a_o_pieceCells a_o_pieceMonths a_o_pieceHighs a_o_pieceAges a_o_pieceNeeds a_o_dragCells a_o_dragEighths a_p1_settings a_p1_howFar a_p1_tones a_p1_currents a_p1_warmths a_p1_depths a_p1_fars a_p1_pieceCells a_p1_pieceMonths a_p1_pieceHighs a_p1_pieceAges a_p1_pieceNeeds a_p1_dragCells a_p1_dragEighths o_pieceCount o_dragCount (va_cpy p1_settings o_settings 0 0 8) (va_cpy p1_howFar o_howFar 0 0 7) o_tones o_currents o_warmths o_depths o_fars o_pieceCells o_pieceMonths o_pieceHighs o_pieceAges o_pieceNeeds o_dragCells o_dragEighths p1_pieceCount p1_dragCount p1_settings p1_howFar p1_tones p1_currents p1_warmths p1_depths p1_fars p1_pieceCells p1_pieceMonths p1_pieceHighs p1_pieceAges p1_pieceNeeds p1_dragCells p1_dragEighths) := hD
  refine lv_aload_n hx hb dX4_take_30 rfl (lv_at hl 1 rfl) ?_
  refine va_get (D := (dC, dI)) (ci := 4) (v := .ref a_p1_tones) (C := RX4) (T := TX4) (N := 16) hx hb hts hi4 hown hK hP 15 rfl rfl 2 (by decide) hq7 (fun _ h9 => h9) rfl dX4_take_31 ?_
  refine lv_iconst (v := 0) hx hb dX4_take_34 (by decide) ?_
  refine lv_aload_n hx hb dX4_take_35 rfl (lv_at hl 0 rfl) ?_
  refine va_get (D := (dC, dI)) (ci := 4) (v := .ref a_o_tones) (C := RX4) (T := TX4) (N := 16) hx hb hts hi4 hown hK hP 0 rfl rfl 2 (by decide) hq7 (fun _ h9 => h9) rfl dX4_take_36 ?_
  refine lv_iconst (v := 0) hx hb dX4_take_39 (by decide) ?_
  refine lv_bipush (v := 7) hx hb dX4_take_40 (by decide) ?_
  refine va_copyi (sp := 0) (dp := 0) (n := 7) (ty := .int) hx hb (hml.trans hl.1.symm) hown hq2 hq3 hq4 hq5 hK hP hD hS 18 3 0 0 rfl rfl rfl rfl rfl (by decide) (by decide) (by decide) (by decide) (by decide) (fun _ _ => rfl) (Nat.le_of_ble_eq_true rfl) (Nat.le_of_ble_eq_true rfl) dX4_take_42 (fun H locs hP hD hS => ?_)
  have hP : va_P (dC, dI) vwCl (W_X4_take cyI cyJ cyO h_o h_p1 a_o_settings a_o_howFar a_o_tones a_o_currents a_o_warmths a_o_depths a_o_fars a_o_pieceCells a_o_pieceMonths a_o_pieceHighs a_o_pieceAges a_o_pieceNeeds a_o_dragCells a_o_dragEighths a_p1_settings a_p1_howFar a_p1_tones a_p1_currents a_p1_warmths a_p1_depths a_p1_fars a_p1_pieceCells a_p1_pieceMonths a_p1_pieceHighs a_p1_pieceAges a_p1_pieceNeeds a_p1_dragCells a_p1_dragEighths o_pieceCount o_dragCount (va_cpy p1_settings o_settings 0 0 8) (va_cpy p1_howFar o_howFar 0 0 7) (va_cpy p1_tones o_tones 0 0 7) o_currents o_warmths o_depths o_fars o_pieceCells o_pieceMonths o_pieceHighs o_pieceAges o_pieceNeeds o_dragCells o_dragEighths p1_pieceCount p1_dragCount p1_settings p1_howFar p1_tones p1_currents p1_warmths p1_depths p1_fars p1_pieceCells p1_pieceMonths p1_pieceHighs p1_pieceAges p1_pieceNeeds p1_dragCells p1_dragEighths) H := hP
  have hD : va_D A (W_X4_take cyI cyJ cyO h_o h_p1 a_o_settings a_o_howFar a_o_tones a_o_currents a_o_warmths a_o_depths a_o_fars a_o_pieceCells a_o_pieceMonths a_o_pieceHighs a_o_pieceAges a_o_pieceNeeds a_o_dragCells a_o_dragEighths a_p1_settings a_p1_howFar a_p1_tones a_p1_currents a_p1_warmths a_p1_depths a_p1_fars a_p1_pieceCells a_p1_pieceMonths a_p1_pieceHighs a_p1_pieceAges a_p1_pieceNeeds a_p1_dragCells a_p1_dragEighths o_pieceCount o_dragCount (va_cpy p1_settings o_settings 0 0 8) (va_cpy p1_howFar o_howFar 0 0 7) (va_cpy p1_tones o_tones 0 0 7) o_currents o_warmths o_depths o_fars o_pieceCells o_pieceMonths o_pieceHighs o_pieceAges o_pieceNeeds o_dragCells o_dragEighths p1_pieceCount p1_dragCount p1_settings p1_howFar p1_tones p1_currents p1_warmths p1_depths p1_fars p1_pieceCells p1_pieceMonths p1_pieceHighs p1_pieceAges p1_pieceNeeds p1_dragCells p1_dragEighths) := hD
  refine lv_aload_n hx hb dX4_take_45 rfl (lv_at hl 1 rfl) ?_
  refine va_get (D := (dC, dI)) (ci := 4) (v := .ref a_p1_currents) (C := RX4) (T := TX4) (N := 16) hx hb hts hi4 hown hK hP 15 rfl rfl 3 (by decide) hq8 (fun _ h9 => h9) rfl dX4_take_46 ?_
  refine lv_iconst (v := 0) hx hb dX4_take_49 (by decide) ?_
  refine lv_aload_n hx hb dX4_take_50 rfl (lv_at hl 0 rfl) ?_
  refine va_get (D := (dC, dI)) (ci := 4) (v := .ref a_o_currents) (C := RX4) (T := TX4) (N := 16) hx hb hts hi4 hown hK hP 0 rfl rfl 3 (by decide) hq8 (fun _ h9 => h9) rfl dX4_take_51 ?_
  refine lv_iconst (v := 0) hx hb dX4_take_54 (by decide) ?_
  refine lv_sipush (v := 200) hx hb dX4_take_55 (by decide) ?_
  refine va_copyi (sp := 0) (dp := 0) (n := 200) (ty := .int) hx hb (hml.trans hl.1.symm) hown hq2 hq3 hq4 hq5 hK hP hD hS 19 4 0 0 rfl rfl rfl rfl rfl (by decide) (by decide) (by decide) (by decide) (by decide) (fun _ _ => rfl) (Nat.le_of_ble_eq_true rfl) (Nat.le_of_ble_eq_true rfl) dX4_take_58 (fun H locs hP hD hS => ?_)
  have hP : va_P (dC, dI) vwCl (W_X4_take cyI cyJ cyO h_o h_p1 a_o_settings a_o_howFar a_o_tones a_o_currents a_o_warmths a_o_depths a_o_fars a_o_pieceCells a_o_pieceMonths a_o_pieceHighs a_o_pieceAges a_o_pieceNeeds a_o_dragCells a_o_dragEighths a_p1_settings a_p1_howFar a_p1_tones a_p1_currents a_p1_warmths a_p1_depths a_p1_fars a_p1_pieceCells a_p1_pieceMonths a_p1_pieceHighs a_p1_pieceAges a_p1_pieceNeeds a_p1_dragCells a_p1_dragEighths o_pieceCount o_dragCount (va_cpy p1_settings o_settings 0 0 8) (va_cpy p1_howFar o_howFar 0 0 7) (va_cpy p1_tones o_tones 0 0 7) (va_cpy p1_currents o_currents 0 0 200) o_warmths o_depths o_fars o_pieceCells o_pieceMonths o_pieceHighs o_pieceAges o_pieceNeeds o_dragCells o_dragEighths p1_pieceCount p1_dragCount p1_settings p1_howFar p1_tones p1_currents p1_warmths p1_depths p1_fars p1_pieceCells p1_pieceMonths p1_pieceHighs p1_pieceAges p1_pieceNeeds p1_dragCells p1_dragEighths) H := hP
  have hD : va_D A (W_X4_take cyI cyJ cyO h_o h_p1 a_o_settings a_o_howFar a_o_tones a_o_currents a_o_warmths a_o_depths a_o_fars a_o_pieceCells a_o_pieceMonths a_o_pieceHighs a_o_pieceAges a_o_pieceNeeds a_o_dragCells a_o_dragEighths a_p1_settings a_p1_howFar a_p1_tones a_p1_currents a_p1_warmths a_p1_depths a_p1_fars a_p1_pieceCells a_p1_pieceMonths a_p1_pieceHighs a_p1_pieceAges a_p1_pieceNeeds a_p1_dragCells a_p1_dragEighths o_pieceCount o_dragCount (va_cpy p1_settings o_settings 0 0 8) (va_cpy p1_howFar o_howFar 0 0 7) (va_cpy p1_tones o_tones 0 0 7) (va_cpy p1_currents o_currents 0 0 200) o_warmths o_depths o_fars o_pieceCells o_pieceMonths o_pieceHighs o_pieceAges o_pieceNeeds o_dragCells o_dragEighths p1_pieceCount p1_dragCount p1_settings p1_howFar p1_tones p1_currents p1_warmths p1_depths p1_fars p1_pieceCells p1_pieceMonths p1_pieceHighs p1_pieceAges p1_pieceNeeds p1_dragCells p1_dragEighths) := hD
  refine lv_aload_n hx hb dX4_take_61 rfl (lv_at hl 1 rfl) ?_
  refine va_get (D := (dC, dI)) (ci := 4) (v := .ref a_p1_warmths) (C := RX4) (T := TX4) (N := 16) hx hb hts hi4 hown hK hP 15 rfl rfl 4 (by decide) hq9 (fun _ h9 => h9) rfl dX4_take_62 ?_
  refine lv_iconst (v := 0) hx hb dX4_take_65 (by decide) ?_
  refine lv_aload_n hx hb dX4_take_66 rfl (lv_at hl 0 rfl) ?_
  refine va_get (D := (dC, dI)) (ci := 4) (v := .ref a_o_warmths) (C := RX4) (T := TX4) (N := 16) hx hb hts hi4 hown hK hP 0 rfl rfl 4 (by decide) hq9 (fun _ h9 => h9) rfl dX4_take_67 ?_
  refine lv_iconst (v := 0) hx hb dX4_take_70 (by decide) ?_
  refine lv_sipush (v := 200) hx hb dX4_take_71 (by decide) ?_
  refine va_copyi (sp := 0) (dp := 0) (n := 200) (ty := .int) hx hb (hml.trans hl.1.symm) hown hq2 hq3 hq4 hq5 hK hP hD hS 20 5 0 0 rfl rfl rfl rfl rfl (by decide) (by decide) (by decide) (by decide) (by decide) (fun _ _ => rfl) (Nat.le_of_ble_eq_true rfl) (Nat.le_of_ble_eq_true rfl) dX4_take_74 (fun H locs hP hD hS => ?_)
  have hP : va_P (dC, dI) vwCl (W_X4_take cyI cyJ cyO h_o h_p1 a_o_settings a_o_howFar a_o_tones a_o_currents a_o_warmths a_o_depths a_o_fars a_o_pieceCells a_o_pieceMonths a_o_pieceHighs a_o_pieceAges a_o_pieceNeeds a_o_dragCells a_o_dragEighths a_p1_settings a_p1_howFar a_p1_tones a_p1_currents a_p1_warmths a_p1_depths a_p1_fars a_p1_pieceCells a_p1_pieceMonths a_p1_pieceHighs a_p1_pieceAges a_p1_pieceNeeds a_p1_dragCells a_p1_dragEighths o_pieceCount o_dragCount (va_cpy p1_settings o_settings 0 0 8) (va_cpy p1_howFar o_howFar 0 0 7) (va_cpy p1_tones o_tones 0 0 7) (va_cpy p1_currents o_currents 0 0 200) (va_cpy p1_warmths o_warmths 0 0 200) o_depths o_fars o_pieceCells o_pieceMonths o_pieceHighs o_pieceAges o_pieceNeeds o_dragCells o_dragEighths p1_pieceCount p1_dragCount p1_settings p1_howFar p1_tones p1_currents p1_warmths p1_depths p1_fars p1_pieceCells p1_pieceMonths p1_pieceHighs p1_pieceAges p1_pieceNeeds p1_dragCells p1_dragEighths) H := hP
  have hD : va_D A (W_X4_take cyI cyJ cyO h_o h_p1 a_o_settings a_o_howFar a_o_tones a_o_currents a_o_warmths a_o_depths a_o_fars a_o_pieceCells a_o_pieceMonths a_o_pieceHighs a_o_pieceAges a_o_pieceNeeds a_o_dragCells a_o_dragEighths a_p1_settings a_p1_howFar a_p1_tones a_p1_currents a_p1_warmths a_p1_depths a_p1_fars a_p1_pieceCells a_p1_pieceMonths a_p1_pieceHighs a_p1_pieceAges a_p1_pieceNeeds a_p1_dragCells a_p1_dragEighths o_pieceCount o_dragCount (va_cpy p1_settings o_settings 0 0 8) (va_cpy p1_howFar o_howFar 0 0 7) (va_cpy p1_tones o_tones 0 0 7) (va_cpy p1_currents o_currents 0 0 200) (va_cpy p1_warmths o_warmths 0 0 200) o_depths o_fars o_pieceCells o_pieceMonths o_pieceHighs o_pieceAges o_pieceNeeds o_dragCells o_dragEighths p1_pieceCount p1_dragCount p1_settings p1_howFar p1_tones p1_currents p1_warmths p1_depths p1_fars p1_pieceCells p1_pieceMonths p1_pieceHighs p1_pieceAges p1_pieceNeeds p1_dragCells p1_dragEighths) := hD
  refine lv_aload_n hx hb dX4_take_77 rfl (lv_at hl 1 rfl) ?_
  refine va_get (D := (dC, dI)) (ci := 4) (v := .ref a_p1_depths) (C := RX4) (T := TX4) (N := 16) hx hb hts hi4 hown hK hP 15 rfl rfl 5 (by decide) hq10 (fun _ h9 => h9) rfl dX4_take_78 ?_
  refine lv_iconst (v := 0) hx hb dX4_take_81 (by decide) ?_
  refine lv_aload_n hx hb dX4_take_82 rfl (lv_at hl 0 rfl) ?_
  refine va_get (D := (dC, dI)) (ci := 4) (v := .ref a_o_depths) (C := RX4) (T := TX4) (N := 16) hx hb hts hi4 hown hK hP 0 rfl rfl 5 (by decide) hq10 (fun _ h9 => h9) rfl dX4_take_83 ?_
  refine lv_iconst (v := 0) hx hb dX4_take_86 (by decide) ?_
  refine lv_bipush (v := 100) hx hb dX4_take_87 (by decide) ?_
  refine va_copyi (sp := 0) (dp := 0) (n := 100) (ty := .int) hx hb (hml.trans hl.1.symm) hown hq2 hq3 hq4 hq5 hK hP hD hS 21 6 0 0 rfl rfl rfl rfl rfl (by decide) (by decide) (by decide) (by decide) (by decide) (fun _ _ => rfl) (Nat.le_of_ble_eq_true rfl) (Nat.le_of_ble_eq_true rfl) dX4_take_89 (fun H locs hP hD hS => ?_)
  have hP : va_P (dC, dI) vwCl (W_X4_take cyI cyJ cyO h_o h_p1 a_o_settings a_o_howFar a_o_tones a_o_currents a_o_warmths a_o_depths a_o_fars a_o_pieceCells a_o_pieceMonths a_o_pieceHighs a_o_pieceAges a_o_pieceNeeds a_o_dragCells a_o_dragEighths a_p1_settings a_p1_howFar a_p1_tones a_p1_currents a_p1_warmths a_p1_depths a_p1_fars a_p1_pieceCells a_p1_pieceMonths a_p1_pieceHighs a_p1_pieceAges a_p1_pieceNeeds a_p1_dragCells a_p1_dragEighths o_pieceCount o_dragCount (va_cpy p1_settings o_settings 0 0 8) (va_cpy p1_howFar o_howFar 0 0 7) (va_cpy p1_tones o_tones 0 0 7) (va_cpy p1_currents o_currents 0 0 200) (va_cpy p1_warmths o_warmths 0 0 200) (va_cpy p1_depths o_depths 0 0 100) o_fars o_pieceCells o_pieceMonths o_pieceHighs o_pieceAges o_pieceNeeds o_dragCells o_dragEighths p1_pieceCount p1_dragCount p1_settings p1_howFar p1_tones p1_currents p1_warmths p1_depths p1_fars p1_pieceCells p1_pieceMonths p1_pieceHighs p1_pieceAges p1_pieceNeeds p1_dragCells p1_dragEighths) H := hP
  have hD : va_D A (W_X4_take cyI cyJ cyO h_o h_p1 a_o_settings a_o_howFar a_o_tones a_o_currents a_o_warmths a_o_depths a_o_fars a_o_pieceCells a_o_pieceMonths a_o_pieceHighs a_o_pieceAges a_o_pieceNeeds a_o_dragCells a_o_dragEighths a_p1_settings a_p1_howFar a_p1_tones a_p1_currents a_p1_warmths a_p1_depths a_p1_fars a_p1_pieceCells a_p1_pieceMonths a_p1_pieceHighs a_p1_pieceAges a_p1_pieceNeeds a_p1_dragCells a_p1_dragEighths o_pieceCount o_dragCount (va_cpy p1_settings o_settings 0 0 8) (va_cpy p1_howFar o_howFar 0 0 7) (va_cpy p1_tones o_tones 0 0 7) (va_cpy p1_currents o_currents 0 0 200) (va_cpy p1_warmths o_warmths 0 0 200) (va_cpy p1_depths o_depths 0 0 100) o_fars o_pieceCells o_pieceMonths o_pieceHighs o_pieceAges o_pieceNeeds o_dragCells o_dragEighths p1_pieceCount p1_dragCount p1_settings p1_howFar p1_tones p1_currents p1_warmths p1_depths p1_fars p1_pieceCells p1_pieceMonths p1_pieceHighs p1_pieceAges p1_pieceNeeds p1_dragCells p1_dragEighths) := hD
  refine lv_aload_n hx hb dX4_take_92 rfl (lv_at hl 1 rfl) ?_
  refine va_get (D := (dC, dI)) (ci := 4) (v := .ref a_p1_fars) (C := RX4) (T := TX4) (N := 16) hx hb hts hi4 hown hK hP 15 rfl rfl 6 (by decide) hq11 (fun _ h9 => h9) rfl dX4_take_93 ?_
  refine lv_iconst (v := 0) hx hb dX4_take_96 (by decide) ?_
  refine lv_aload_n hx hb dX4_take_97 rfl (lv_at hl 0 rfl) ?_
  refine va_get (D := (dC, dI)) (ci := 4) (v := .ref a_o_fars) (C := RX4) (T := TX4) (N := 16) hx hb hts hi4 hown hK hP 0 rfl rfl 6 (by decide) hq11 (fun _ h9 => h9) rfl dX4_take_98 ?_
  refine lv_iconst (v := 0) hx hb dX4_take_101 (by decide) ?_
  refine lv_bipush (v := 100) hx hb dX4_take_102 (by decide) ?_
  refine va_copyi (sp := 0) (dp := 0) (n := 100) (ty := .int) hx hb (hml.trans hl.1.symm) hown hq2 hq3 hq4 hq5 hK hP hD hS 22 7 0 0 rfl rfl rfl rfl rfl (by decide) (by decide) (by decide) (by decide) (by decide) (fun _ _ => rfl) (Nat.le_of_ble_eq_true rfl) (Nat.le_of_ble_eq_true rfl) dX4_take_104 (fun H locs hP hD hS => ?_)
  have hP : va_P (dC, dI) vwCl (W_X4_take cyI cyJ cyO h_o h_p1 a_o_settings a_o_howFar a_o_tones a_o_currents a_o_warmths a_o_depths a_o_fars a_o_pieceCells a_o_pieceMonths a_o_pieceHighs a_o_pieceAges a_o_pieceNeeds a_o_dragCells a_o_dragEighths a_p1_settings a_p1_howFar a_p1_tones a_p1_currents a_p1_warmths a_p1_depths a_p1_fars a_p1_pieceCells a_p1_pieceMonths a_p1_pieceHighs a_p1_pieceAges a_p1_pieceNeeds a_p1_dragCells a_p1_dragEighths o_pieceCount o_dragCount (va_cpy p1_settings o_settings 0 0 8) (va_cpy p1_howFar o_howFar 0 0 7) (va_cpy p1_tones o_tones 0 0 7) (va_cpy p1_currents o_currents 0 0 200) (va_cpy p1_warmths o_warmths 0 0 200) (va_cpy p1_depths o_depths 0 0 100) (va_cpy p1_fars o_fars 0 0 100) o_pieceCells o_pieceMonths o_pieceHighs o_pieceAges o_pieceNeeds o_dragCells o_dragEighths p1_pieceCount p1_dragCount p1_settings p1_howFar p1_tones p1_currents p1_warmths p1_depths p1_fars p1_pieceCells p1_pieceMonths p1_pieceHighs p1_pieceAges p1_pieceNeeds p1_dragCells p1_dragEighths) H := hP
  have hD : va_D A (W_X4_take cyI cyJ cyO h_o h_p1 a_o_settings a_o_howFar a_o_tones a_o_currents a_o_warmths a_o_depths a_o_fars a_o_pieceCells a_o_pieceMonths a_o_pieceHighs a_o_pieceAges a_o_pieceNeeds a_o_dragCells a_o_dragEighths a_p1_settings a_p1_howFar a_p1_tones a_p1_currents a_p1_warmths a_p1_depths a_p1_fars a_p1_pieceCells a_p1_pieceMonths a_p1_pieceHighs a_p1_pieceAges a_p1_pieceNeeds a_p1_dragCells a_p1_dragEighths o_pieceCount o_dragCount (va_cpy p1_settings o_settings 0 0 8) (va_cpy p1_howFar o_howFar 0 0 7) (va_cpy p1_tones o_tones 0 0 7) (va_cpy p1_currents o_currents 0 0 200) (va_cpy p1_warmths o_warmths 0 0 200) (va_cpy p1_depths o_depths 0 0 100) (va_cpy p1_fars o_fars 0 0 100) o_pieceCells o_pieceMonths o_pieceHighs o_pieceAges o_pieceNeeds o_dragCells o_dragEighths p1_pieceCount p1_dragCount p1_settings p1_howFar p1_tones p1_currents p1_warmths p1_depths p1_fars p1_pieceCells p1_pieceMonths p1_pieceHighs p1_pieceAges p1_pieceNeeds p1_dragCells p1_dragEighths) := hD
  refine lv_aload_n hx hb dX4_take_107 rfl (lv_at hl 1 rfl) ?_
  refine va_get (D := (dC, dI)) (ci := 4) (v := .ref a_p1_pieceCells) (C := RX4) (T := TX4) (N := 16) hx hb hts hi4 hown hK hP 15 rfl rfl 7 (by decide) hq12 (fun _ h9 => h9) rfl dX4_take_108 ?_
  refine lv_iconst (v := 0) hx hb dX4_take_111 (by decide) ?_
  refine lv_aload_n hx hb dX4_take_112 rfl (lv_at hl 0 rfl) ?_
  refine va_get (D := (dC, dI)) (ci := 4) (v := .ref a_o_pieceCells) (C := RX4) (T := TX4) (N := 16) hx hb hts hi4 hown hK hP 0 rfl rfl 7 (by decide) hq12 (fun _ h9 => h9) rfl dX4_take_113 ?_
  refine lv_iconst (v := 0) hx hb dX4_take_116 (by decide) ?_
  refine lv_iconst (v := 4) hx hb dX4_take_117 (by decide) ?_
  refine va_copyi (sp := 0) (dp := 0) (n := 4) (ty := .int) hx hb (hml.trans hl.1.symm) hown hq2 hq3 hq4 hq5 hK hP hD hS 23 8 0 0 rfl rfl rfl rfl rfl (by decide) (by decide) (by decide) (by decide) (by decide) (fun _ _ => rfl) (Nat.le_of_ble_eq_true rfl) (Nat.le_of_ble_eq_true rfl) dX4_take_118 (fun H locs hP hD hS => ?_)
  have hP : va_P (dC, dI) vwCl (W_X4_take cyI cyJ cyO h_o h_p1 a_o_settings a_o_howFar a_o_tones a_o_currents a_o_warmths a_o_depths a_o_fars a_o_pieceCells a_o_pieceMonths a_o_pieceHighs a_o_pieceAges a_o_pieceNeeds a_o_dragCells a_o_dragEighths a_p1_settings a_p1_howFar a_p1_tones a_p1_currents a_p1_warmths a_p1_depths a_p1_fars a_p1_pieceCells a_p1_pieceMonths a_p1_pieceHighs a_p1_pieceAges a_p1_pieceNeeds a_p1_dragCells a_p1_dragEighths o_pieceCount o_dragCount (va_cpy p1_settings o_settings 0 0 8) (va_cpy p1_howFar o_howFar 0 0 7) (va_cpy p1_tones o_tones 0 0 7) (va_cpy p1_currents o_currents 0 0 200) (va_cpy p1_warmths o_warmths 0 0 200) (va_cpy p1_depths o_depths 0 0 100) (va_cpy p1_fars o_fars 0 0 100) (va_cpy p1_pieceCells o_pieceCells 0 0 4) o_pieceMonths o_pieceHighs o_pieceAges o_pieceNeeds o_dragCells o_dragEighths p1_pieceCount p1_dragCount p1_settings p1_howFar p1_tones p1_currents p1_warmths p1_depths p1_fars p1_pieceCells p1_pieceMonths p1_pieceHighs p1_pieceAges p1_pieceNeeds p1_dragCells p1_dragEighths) H := hP
  have hD : va_D A (W_X4_take cyI cyJ cyO h_o h_p1 a_o_settings a_o_howFar a_o_tones a_o_currents a_o_warmths a_o_depths a_o_fars a_o_pieceCells a_o_pieceMonths a_o_pieceHighs a_o_pieceAges a_o_pieceNeeds a_o_dragCells a_o_dragEighths a_p1_settings a_p1_howFar a_p1_tones a_p1_currents a_p1_warmths a_p1_depths a_p1_fars a_p1_pieceCells a_p1_pieceMonths a_p1_pieceHighs a_p1_pieceAges a_p1_pieceNeeds a_p1_dragCells a_p1_dragEighths o_pieceCount o_dragCount (va_cpy p1_settings o_settings 0 0 8) (va_cpy p1_howFar o_howFar 0 0 7) (va_cpy p1_tones o_tones 0 0 7) (va_cpy p1_currents o_currents 0 0 200) (va_cpy p1_warmths o_warmths 0 0 200) (va_cpy p1_depths o_depths 0 0 100) (va_cpy p1_fars o_fars 0 0 100) (va_cpy p1_pieceCells o_pieceCells 0 0 4) o_pieceMonths o_pieceHighs o_pieceAges o_pieceNeeds o_dragCells o_dragEighths p1_pieceCount p1_dragCount p1_settings p1_howFar p1_tones p1_currents p1_warmths p1_depths p1_fars p1_pieceCells p1_pieceMonths p1_pieceHighs p1_pieceAges p1_pieceNeeds p1_dragCells p1_dragEighths) := hD
  refine lv_aload_n hx hb dX4_take_121 rfl (lv_at hl 1 rfl) ?_
  refine va_get (D := (dC, dI)) (ci := 4) (v := .ref a_p1_pieceMonths) (C := RX4) (T := TX4) (N := 16) hx hb hts hi4 hown hK hP 15 rfl rfl 8 (by decide) hq13 (fun _ h9 => h9) rfl dX4_take_122 ?_
  refine lv_iconst (v := 0) hx hb dX4_take_125 (by decide) ?_
  refine lv_aload_n hx hb dX4_take_126 rfl (lv_at hl 0 rfl) ?_
  refine va_get (D := (dC, dI)) (ci := 4) (v := .ref a_o_pieceMonths) (C := RX4) (T := TX4) (N := 16) hx hb hts hi4 hown hK hP 0 rfl rfl 8 (by decide) hq13 (fun _ h9 => h9) rfl dX4_take_127 ?_
  refine lv_iconst (v := 0) hx hb dX4_take_130 (by decide) ?_
  refine lv_iconst (v := 4) hx hb dX4_take_131 (by decide) ?_
  refine va_copyi (sp := 0) (dp := 0) (n := 4) (ty := .int) hx hb (hml.trans hl.1.symm) hown hq2 hq3 hq4 hq5 hK hP hD hS 24 9 0 0 rfl rfl rfl rfl rfl (by decide) (by decide) (by decide) (by decide) (by decide) (fun _ _ => rfl) (Nat.le_of_ble_eq_true rfl) (Nat.le_of_ble_eq_true rfl) dX4_take_132 (fun H locs hP hD hS => ?_)
  have hP : va_P (dC, dI) vwCl (W_X4_take cyI cyJ cyO h_o h_p1 a_o_settings a_o_howFar a_o_tones a_o_currents a_o_warmths a_o_depths a_o_fars a_o_pieceCells a_o_pieceMonths a_o_pieceHighs a_o_pieceAges a_o_pieceNeeds a_o_dragCells a_o_dragEighths a_p1_settings a_p1_howFar a_p1_tones a_p1_currents a_p1_warmths a_p1_depths a_p1_fars a_p1_pieceCells a_p1_pieceMonths a_p1_pieceHighs a_p1_pieceAges a_p1_pieceNeeds a_p1_dragCells a_p1_dragEighths o_pieceCount o_dragCount (va_cpy p1_settings o_settings 0 0 8) (va_cpy p1_howFar o_howFar 0 0 7) (va_cpy p1_tones o_tones 0 0 7) (va_cpy p1_currents o_currents 0 0 200) (va_cpy p1_warmths o_warmths 0 0 200) (va_cpy p1_depths o_depths 0 0 100) (va_cpy p1_fars o_fars 0 0 100) (va_cpy p1_pieceCells o_pieceCells 0 0 4) (va_cpy p1_pieceMonths o_pieceMonths 0 0 4) o_pieceHighs o_pieceAges o_pieceNeeds o_dragCells o_dragEighths p1_pieceCount p1_dragCount p1_settings p1_howFar p1_tones p1_currents p1_warmths p1_depths p1_fars p1_pieceCells p1_pieceMonths p1_pieceHighs p1_pieceAges p1_pieceNeeds p1_dragCells p1_dragEighths) H := hP
  have hD : va_D A (W_X4_take cyI cyJ cyO h_o h_p1 a_o_settings a_o_howFar a_o_tones a_o_currents a_o_warmths a_o_depths a_o_fars a_o_pieceCells a_o_pieceMonths a_o_pieceHighs a_o_pieceAges a_o_pieceNeeds a_o_dragCells a_o_dragEighths a_p1_settings a_p1_howFar a_p1_tones a_p1_currents a_p1_warmths a_p1_depths a_p1_fars a_p1_pieceCells a_p1_pieceMonths a_p1_pieceHighs a_p1_pieceAges a_p1_pieceNeeds a_p1_dragCells a_p1_dragEighths o_pieceCount o_dragCount (va_cpy p1_settings o_settings 0 0 8) (va_cpy p1_howFar o_howFar 0 0 7) (va_cpy p1_tones o_tones 0 0 7) (va_cpy p1_currents o_currents 0 0 200) (va_cpy p1_warmths o_warmths 0 0 200) (va_cpy p1_depths o_depths 0 0 100) (va_cpy p1_fars o_fars 0 0 100) (va_cpy p1_pieceCells o_pieceCells 0 0 4) (va_cpy p1_pieceMonths o_pieceMonths 0 0 4) o_pieceHighs o_pieceAges o_pieceNeeds o_dragCells o_dragEighths p1_pieceCount p1_dragCount p1_settings p1_howFar p1_tones p1_currents p1_warmths p1_depths p1_fars p1_pieceCells p1_pieceMonths p1_pieceHighs p1_pieceAges p1_pieceNeeds p1_dragCells p1_dragEighths) := hD
  refine lv_aload_n hx hb dX4_take_135 rfl (lv_at hl 1 rfl) ?_
  refine va_get (D := (dC, dI)) (ci := 4) (v := .ref a_p1_pieceHighs) (C := RX4) (T := TX4) (N := 16) hx hb hts hi4 hown hK hP 15 rfl rfl 9 (by decide) hq14 (fun _ h9 => h9) rfl dX4_take_136 ?_
  refine lv_iconst (v := 0) hx hb dX4_take_139 (by decide) ?_
  refine lv_aload_n hx hb dX4_take_140 rfl (lv_at hl 0 rfl) ?_
  refine va_get (D := (dC, dI)) (ci := 4) (v := .ref a_o_pieceHighs) (C := RX4) (T := TX4) (N := 16) hx hb hts hi4 hown hK hP 0 rfl rfl 9 (by decide) hq14 (fun _ h9 => h9) rfl dX4_take_141 ?_
  refine lv_iconst (v := 0) hx hb dX4_take_144 (by decide) ?_
  refine lv_iconst (v := 4) hx hb dX4_take_145 (by decide) ?_
  refine va_copyi (sp := 0) (dp := 0) (n := 4) (ty := .int) hx hb (hml.trans hl.1.symm) hown hq2 hq3 hq4 hq5 hK hP hD hS 25 10 0 0 rfl rfl rfl rfl rfl (by decide) (by decide) (by decide) (by decide) (by decide) (fun _ _ => rfl) (Nat.le_of_ble_eq_true rfl) (Nat.le_of_ble_eq_true rfl) dX4_take_146 (fun H locs hP hD hS => ?_)
  have hP : va_P (dC, dI) vwCl (W_X4_take cyI cyJ cyO h_o h_p1 a_o_settings a_o_howFar a_o_tones a_o_currents a_o_warmths a_o_depths a_o_fars a_o_pieceCells a_o_pieceMonths a_o_pieceHighs a_o_pieceAges a_o_pieceNeeds a_o_dragCells a_o_dragEighths a_p1_settings a_p1_howFar a_p1_tones a_p1_currents a_p1_warmths a_p1_depths a_p1_fars a_p1_pieceCells a_p1_pieceMonths a_p1_pieceHighs a_p1_pieceAges a_p1_pieceNeeds a_p1_dragCells a_p1_dragEighths o_pieceCount o_dragCount (va_cpy p1_settings o_settings 0 0 8) (va_cpy p1_howFar o_howFar 0 0 7) (va_cpy p1_tones o_tones 0 0 7) (va_cpy p1_currents o_currents 0 0 200) (va_cpy p1_warmths o_warmths 0 0 200) (va_cpy p1_depths o_depths 0 0 100) (va_cpy p1_fars o_fars 0 0 100) (va_cpy p1_pieceCells o_pieceCells 0 0 4) (va_cpy p1_pieceMonths o_pieceMonths 0 0 4) (va_cpy p1_pieceHighs o_pieceHighs 0 0 4) o_pieceAges o_pieceNeeds o_dragCells o_dragEighths p1_pieceCount p1_dragCount p1_settings p1_howFar p1_tones p1_currents p1_warmths p1_depths p1_fars p1_pieceCells p1_pieceMonths p1_pieceHighs p1_pieceAges p1_pieceNeeds p1_dragCells p1_dragEighths) H := hP
  have hD : va_D A (W_X4_take cyI cyJ cyO h_o h_p1 a_o_settings a_o_howFar a_o_tones a_o_currents a_o_warmths a_o_depths a_o_fars a_o_pieceCells a_o_pieceMonths a_o_pieceHighs a_o_pieceAges a_o_pieceNeeds a_o_dragCells a_o_dragEighths a_p1_settings a_p1_howFar a_p1_tones a_p1_currents a_p1_warmths a_p1_depths a_p1_fars a_p1_pieceCells a_p1_pieceMonths a_p1_pieceHighs a_p1_pieceAges a_p1_pieceNeeds a_p1_dragCells a_p1_dragEighths o_pieceCount o_dragCount (va_cpy p1_settings o_settings 0 0 8) (va_cpy p1_howFar o_howFar 0 0 7) (va_cpy p1_tones o_tones 0 0 7) (va_cpy p1_currents o_currents 0 0 200) (va_cpy p1_warmths o_warmths 0 0 200) (va_cpy p1_depths o_depths 0 0 100) (va_cpy p1_fars o_fars 0 0 100) (va_cpy p1_pieceCells o_pieceCells 0 0 4) (va_cpy p1_pieceMonths o_pieceMonths 0 0 4) (va_cpy p1_pieceHighs o_pieceHighs 0 0 4) o_pieceAges o_pieceNeeds o_dragCells o_dragEighths p1_pieceCount p1_dragCount p1_settings p1_howFar p1_tones p1_currents p1_warmths p1_depths p1_fars p1_pieceCells p1_pieceMonths p1_pieceHighs p1_pieceAges p1_pieceNeeds p1_dragCells p1_dragEighths) := hD
  refine lv_aload_n hx hb dX4_take_149 rfl (lv_at hl 1 rfl) ?_
  refine va_get (D := (dC, dI)) (ci := 4) (v := .ref a_p1_pieceAges) (C := RX4) (T := TX4) (N := 16) hx hb hts hi4 hown hK hP 15 rfl rfl 10 (by decide) hq15 (fun _ h9 => h9) rfl dX4_take_150 ?_
  refine lv_iconst (v := 0) hx hb dX4_take_153 (by decide) ?_
  refine lv_aload_n hx hb dX4_take_154 rfl (lv_at hl 0 rfl) ?_
  refine va_get (D := (dC, dI)) (ci := 4) (v := .ref a_o_pieceAges) (C := RX4) (T := TX4) (N := 16) hx hb hts hi4 hown hK hP 0 rfl rfl 10 (by decide) hq15 (fun _ h9 => h9) rfl dX4_take_155 ?_
  refine lv_iconst (v := 0) hx hb dX4_take_158 (by decide) ?_
  refine lv_iconst (v := 4) hx hb dX4_take_159 (by decide) ?_
  refine va_copyi (sp := 0) (dp := 0) (n := 4) (ty := .int) hx hb (hml.trans hl.1.symm) hown hq2 hq3 hq4 hq5 hK hP hD hS 26 11 0 0 rfl rfl rfl rfl rfl (by decide) (by decide) (by decide) (by decide) (by decide) (fun _ _ => rfl) (Nat.le_of_ble_eq_true rfl) (Nat.le_of_ble_eq_true rfl) dX4_take_160 (fun H locs hP hD hS => ?_)
  have hP : va_P (dC, dI) vwCl (W_X4_take cyI cyJ cyO h_o h_p1 a_o_settings a_o_howFar a_o_tones a_o_currents a_o_warmths a_o_depths a_o_fars a_o_pieceCells a_o_pieceMonths a_o_pieceHighs a_o_pieceAges a_o_pieceNeeds a_o_dragCells a_o_dragEighths a_p1_settings a_p1_howFar a_p1_tones a_p1_currents a_p1_warmths a_p1_depths a_p1_fars a_p1_pieceCells a_p1_pieceMonths a_p1_pieceHighs a_p1_pieceAges a_p1_pieceNeeds a_p1_dragCells a_p1_dragEighths o_pieceCount o_dragCount (va_cpy p1_settings o_settings 0 0 8) (va_cpy p1_howFar o_howFar 0 0 7) (va_cpy p1_tones o_tones 0 0 7) (va_cpy p1_currents o_currents 0 0 200) (va_cpy p1_warmths o_warmths 0 0 200) (va_cpy p1_depths o_depths 0 0 100) (va_cpy p1_fars o_fars 0 0 100) (va_cpy p1_pieceCells o_pieceCells 0 0 4) (va_cpy p1_pieceMonths o_pieceMonths 0 0 4) (va_cpy p1_pieceHighs o_pieceHighs 0 0 4) (va_cpy p1_pieceAges o_pieceAges 0 0 4) o_pieceNeeds o_dragCells o_dragEighths p1_pieceCount p1_dragCount p1_settings p1_howFar p1_tones p1_currents p1_warmths p1_depths p1_fars p1_pieceCells p1_pieceMonths p1_pieceHighs p1_pieceAges p1_pieceNeeds p1_dragCells p1_dragEighths) H := hP
  have hD : va_D A (W_X4_take cyI cyJ cyO h_o h_p1 a_o_settings a_o_howFar a_o_tones a_o_currents a_o_warmths a_o_depths a_o_fars a_o_pieceCells a_o_pieceMonths a_o_pieceHighs a_o_pieceAges a_o_pieceNeeds a_o_dragCells a_o_dragEighths a_p1_settings a_p1_howFar a_p1_tones a_p1_currents a_p1_warmths a_p1_depths a_p1_fars a_p1_pieceCells a_p1_pieceMonths a_p1_pieceHighs a_p1_pieceAges a_p1_pieceNeeds a_p1_dragCells a_p1_dragEighths o_pieceCount o_dragCount (va_cpy p1_settings o_settings 0 0 8) (va_cpy p1_howFar o_howFar 0 0 7) (va_cpy p1_tones o_tones 0 0 7) (va_cpy p1_currents o_currents 0 0 200) (va_cpy p1_warmths o_warmths 0 0 200) (va_cpy p1_depths o_depths 0 0 100) (va_cpy p1_fars o_fars 0 0 100) (va_cpy p1_pieceCells o_pieceCells 0 0 4) (va_cpy p1_pieceMonths o_pieceMonths 0 0 4) (va_cpy p1_pieceHighs o_pieceHighs 0 0 4) (va_cpy p1_pieceAges o_pieceAges 0 0 4) o_pieceNeeds o_dragCells o_dragEighths p1_pieceCount p1_dragCount p1_settings p1_howFar p1_tones p1_currents p1_warmths p1_depths p1_fars p1_pieceCells p1_pieceMonths p1_pieceHighs p1_pieceAges p1_pieceNeeds p1_dragCells p1_dragEighths) := hD
  refine lv_aload_n hx hb dX4_take_163 rfl (lv_at hl 1 rfl) ?_
  refine va_get (D := (dC, dI)) (ci := 4) (v := .ref a_p1_pieceNeeds) (C := RX4) (T := TX4) (N := 16) hx hb hts hi4 hown hK hP 15 rfl rfl 11 (by decide) hq16 (fun _ h9 => h9) rfl dX4_take_164 ?_
  refine lv_iconst (v := 0) hx hb dX4_take_167 (by decide) ?_
  refine lv_aload_n hx hb dX4_take_168 rfl (lv_at hl 0 rfl) ?_
  refine va_get (D := (dC, dI)) (ci := 4) (v := .ref a_o_pieceNeeds) (C := RX4) (T := TX4) (N := 16) hx hb hts hi4 hown hK hP 0 rfl rfl 11 (by decide) hq16 (fun _ h9 => h9) rfl dX4_take_169 ?_
  refine lv_iconst (v := 0) hx hb dX4_take_172 (by decide) ?_
  refine lv_iconst (v := 4) hx hb dX4_take_173 (by decide) ?_
  refine va_copyi (sp := 0) (dp := 0) (n := 4) (ty := .int) hx hb (hml.trans hl.1.symm) hown hq2 hq3 hq4 hq5 hK hP hD hS 27 12 0 0 rfl rfl rfl rfl rfl (by decide) (by decide) (by decide) (by decide) (by decide) (fun _ _ => rfl) (Nat.le_of_ble_eq_true rfl) (Nat.le_of_ble_eq_true rfl) dX4_take_174 (fun H locs hP hD hS => ?_)
  have hP : va_P (dC, dI) vwCl (W_X4_take cyI cyJ cyO h_o h_p1 a_o_settings a_o_howFar a_o_tones a_o_currents a_o_warmths a_o_depths a_o_fars a_o_pieceCells a_o_pieceMonths a_o_pieceHighs a_o_pieceAges a_o_pieceNeeds a_o_dragCells a_o_dragEighths a_p1_settings a_p1_howFar a_p1_tones a_p1_currents a_p1_warmths a_p1_depths a_p1_fars a_p1_pieceCells a_p1_pieceMonths a_p1_pieceHighs a_p1_pieceAges a_p1_pieceNeeds a_p1_dragCells a_p1_dragEighths o_pieceCount o_dragCount (va_cpy p1_settings o_settings 0 0 8) (va_cpy p1_howFar o_howFar 0 0 7) (va_cpy p1_tones o_tones 0 0 7) (va_cpy p1_currents o_currents 0 0 200) (va_cpy p1_warmths o_warmths 0 0 200) (va_cpy p1_depths o_depths 0 0 100) (va_cpy p1_fars o_fars 0 0 100) (va_cpy p1_pieceCells o_pieceCells 0 0 4) (va_cpy p1_pieceMonths o_pieceMonths 0 0 4) (va_cpy p1_pieceHighs o_pieceHighs 0 0 4) (va_cpy p1_pieceAges o_pieceAges 0 0 4) (va_cpy p1_pieceNeeds o_pieceNeeds 0 0 4) o_dragCells o_dragEighths p1_pieceCount p1_dragCount p1_settings p1_howFar p1_tones p1_currents p1_warmths p1_depths p1_fars p1_pieceCells p1_pieceMonths p1_pieceHighs p1_pieceAges p1_pieceNeeds p1_dragCells p1_dragEighths) H := hP
  have hD : va_D A (W_X4_take cyI cyJ cyO h_o h_p1 a_o_settings a_o_howFar a_o_tones a_o_currents a_o_warmths a_o_depths a_o_fars a_o_pieceCells a_o_pieceMonths a_o_pieceHighs a_o_pieceAges a_o_pieceNeeds a_o_dragCells a_o_dragEighths a_p1_settings a_p1_howFar a_p1_tones a_p1_currents a_p1_warmths a_p1_depths a_p1_fars a_p1_pieceCells a_p1_pieceMonths a_p1_pieceHighs a_p1_pieceAges a_p1_pieceNeeds a_p1_dragCells a_p1_dragEighths o_pieceCount o_dragCount (va_cpy p1_settings o_settings 0 0 8) (va_cpy p1_howFar o_howFar 0 0 7) (va_cpy p1_tones o_tones 0 0 7) (va_cpy p1_currents o_currents 0 0 200) (va_cpy p1_warmths o_warmths 0 0 200) (va_cpy p1_depths o_depths 0 0 100) (va_cpy p1_fars o_fars 0 0 100) (va_cpy p1_pieceCells o_pieceCells 0 0 4) (va_cpy p1_pieceMonths o_pieceMonths 0 0 4) (va_cpy p1_pieceHighs o_pieceHighs 0 0 4) (va_cpy p1_pieceAges o_pieceAges 0 0 4) (va_cpy p1_pieceNeeds o_pieceNeeds 0 0 4) o_dragCells o_dragEighths p1_pieceCount p1_dragCount p1_settings p1_howFar p1_tones p1_currents p1_warmths p1_depths p1_fars p1_pieceCells p1_pieceMonths p1_pieceHighs p1_pieceAges p1_pieceNeeds p1_dragCells p1_dragEighths) := hD
  refine lv_aload_n hx hb dX4_take_177 rfl (lv_at hl 1 rfl) ?_
  refine va_get (D := (dC, dI)) (ci := 4) (v := .ref a_p1_dragCells) (C := RX4) (T := TX4) (N := 16) hx hb hts hi4 hown hK hP 15 rfl rfl 12 (by decide) hq17 (fun _ h9 => h9) rfl dX4_take_178 ?_
  refine lv_iconst (v := 0) hx hb dX4_take_181 (by decide) ?_
  refine lv_aload_n hx hb dX4_take_182 rfl (lv_at hl 0 rfl) ?_
  refine va_get (D := (dC, dI)) (ci := 4) (v := .ref a_o_dragCells) (C := RX4) (T := TX4) (N := 16) hx hb hts hi4 hown hK hP 0 rfl rfl 12 (by decide) hq17 (fun _ h9 => h9) rfl dX4_take_183 ?_
  refine lv_iconst (v := 0) hx hb dX4_take_186 (by decide) ?_
  refine lv_iconst (v := 4) hx hb dX4_take_187 (by decide) ?_
  refine va_copyi (sp := 0) (dp := 0) (n := 4) (ty := .int) hx hb (hml.trans hl.1.symm) hown hq2 hq3 hq4 hq5 hK hP hD hS 28 13 0 0 rfl rfl rfl rfl rfl (by decide) (by decide) (by decide) (by decide) (by decide) (fun _ _ => rfl) (Nat.le_of_ble_eq_true rfl) (Nat.le_of_ble_eq_true rfl) dX4_take_188 (fun H locs hP hD hS => ?_)
  have hP : va_P (dC, dI) vwCl (W_X4_take cyI cyJ cyO h_o h_p1 a_o_settings a_o_howFar a_o_tones a_o_currents a_o_warmths a_o_depths a_o_fars a_o_pieceCells a_o_pieceMonths a_o_pieceHighs a_o_pieceAges a_o_pieceNeeds a_o_dragCells a_o_dragEighths a_p1_settings a_p1_howFar a_p1_tones a_p1_currents a_p1_warmths a_p1_depths a_p1_fars a_p1_pieceCells a_p1_pieceMonths a_p1_pieceHighs a_p1_pieceAges a_p1_pieceNeeds a_p1_dragCells a_p1_dragEighths o_pieceCount o_dragCount (va_cpy p1_settings o_settings 0 0 8) (va_cpy p1_howFar o_howFar 0 0 7) (va_cpy p1_tones o_tones 0 0 7) (va_cpy p1_currents o_currents 0 0 200) (va_cpy p1_warmths o_warmths 0 0 200) (va_cpy p1_depths o_depths 0 0 100) (va_cpy p1_fars o_fars 0 0 100) (va_cpy p1_pieceCells o_pieceCells 0 0 4) (va_cpy p1_pieceMonths o_pieceMonths 0 0 4) (va_cpy p1_pieceHighs o_pieceHighs 0 0 4) (va_cpy p1_pieceAges o_pieceAges 0 0 4) (va_cpy p1_pieceNeeds o_pieceNeeds 0 0 4) (va_cpy p1_dragCells o_dragCells 0 0 4) o_dragEighths p1_pieceCount p1_dragCount p1_settings p1_howFar p1_tones p1_currents p1_warmths p1_depths p1_fars p1_pieceCells p1_pieceMonths p1_pieceHighs p1_pieceAges p1_pieceNeeds p1_dragCells p1_dragEighths) H := hP
  have hD : va_D A (W_X4_take cyI cyJ cyO h_o h_p1 a_o_settings a_o_howFar a_o_tones a_o_currents a_o_warmths a_o_depths a_o_fars a_o_pieceCells a_o_pieceMonths a_o_pieceHighs a_o_pieceAges a_o_pieceNeeds a_o_dragCells a_o_dragEighths a_p1_settings a_p1_howFar a_p1_tones a_p1_currents a_p1_warmths a_p1_depths a_p1_fars a_p1_pieceCells a_p1_pieceMonths a_p1_pieceHighs a_p1_pieceAges a_p1_pieceNeeds a_p1_dragCells a_p1_dragEighths o_pieceCount o_dragCount (va_cpy p1_settings o_settings 0 0 8) (va_cpy p1_howFar o_howFar 0 0 7) (va_cpy p1_tones o_tones 0 0 7) (va_cpy p1_currents o_currents 0 0 200) (va_cpy p1_warmths o_warmths 0 0 200) (va_cpy p1_depths o_depths 0 0 100) (va_cpy p1_fars o_fars 0 0 100) (va_cpy p1_pieceCells o_pieceCells 0 0 4) (va_cpy p1_pieceMonths o_pieceMonths 0 0 4) (va_cpy p1_pieceHighs o_pieceHighs 0 0 4) (va_cpy p1_pieceAges o_pieceAges 0 0 4) (va_cpy p1_pieceNeeds o_pieceNeeds 0 0 4) (va_cpy p1_dragCells o_dragCells 0 0 4) o_dragEighths p1_pieceCount p1_dragCount p1_settings p1_howFar p1_tones p1_currents p1_warmths p1_depths p1_fars p1_pieceCells p1_pieceMonths p1_pieceHighs p1_pieceAges p1_pieceNeeds p1_dragCells p1_dragEighths) := hD
  refine lv_aload_n hx hb dX4_take_191 rfl (lv_at hl 1 rfl) ?_
  refine va_get (D := (dC, dI)) (ci := 4) (v := .ref a_p1_dragEighths) (C := RX4) (T := TX4) (N := 16) hx hb hts hi4 hown hK hP 15 rfl rfl 13 (by decide) hq18 (fun _ h9 => h9) rfl dX4_take_192 ?_
  refine lv_iconst (v := 0) hx hb dX4_take_195 (by decide) ?_
  refine lv_aload_n hx hb dX4_take_196 rfl (lv_at hl 0 rfl) ?_
  refine va_get (D := (dC, dI)) (ci := 4) (v := .ref a_o_dragEighths) (C := RX4) (T := TX4) (N := 16) hx hb hts hi4 hown hK hP 0 rfl rfl 13 (by decide) hq18 (fun _ h9 => h9) rfl dX4_take_197 ?_
  refine lv_iconst (v := 0) hx hb dX4_take_200 (by decide) ?_
  refine lv_iconst (v := 4) hx hb dX4_take_201 (by decide) ?_
  refine va_copyi (sp := 0) (dp := 0) (n := 4) (ty := .int) hx hb (hml.trans hl.1.symm) hown hq2 hq3 hq4 hq5 hK hP hD hS 29 14 0 0 rfl rfl rfl rfl rfl (by decide) (by decide) (by decide) (by decide) (by decide) (fun _ _ => rfl) (Nat.le_of_ble_eq_true rfl) (Nat.le_of_ble_eq_true rfl) dX4_take_202 (fun H locs hP hD hS => ?_)
  have hP : va_P (dC, dI) vwCl (W_X4_take cyI cyJ cyO h_o h_p1 a_o_settings a_o_howFar a_o_tones a_o_currents a_o_warmths a_o_depths a_o_fars a_o_pieceCells a_o_pieceMonths a_o_pieceHighs a_o_pieceAges a_o_pieceNeeds a_o_dragCells a_o_dragEighths a_p1_settings a_p1_howFar a_p1_tones a_p1_currents a_p1_warmths a_p1_depths a_p1_fars a_p1_pieceCells a_p1_pieceMonths a_p1_pieceHighs a_p1_pieceAges a_p1_pieceNeeds a_p1_dragCells a_p1_dragEighths o_pieceCount o_dragCount (va_cpy p1_settings o_settings 0 0 8) (va_cpy p1_howFar o_howFar 0 0 7) (va_cpy p1_tones o_tones 0 0 7) (va_cpy p1_currents o_currents 0 0 200) (va_cpy p1_warmths o_warmths 0 0 200) (va_cpy p1_depths o_depths 0 0 100) (va_cpy p1_fars o_fars 0 0 100) (va_cpy p1_pieceCells o_pieceCells 0 0 4) (va_cpy p1_pieceMonths o_pieceMonths 0 0 4) (va_cpy p1_pieceHighs o_pieceHighs 0 0 4) (va_cpy p1_pieceAges o_pieceAges 0 0 4) (va_cpy p1_pieceNeeds o_pieceNeeds 0 0 4) (va_cpy p1_dragCells o_dragCells 0 0 4) (va_cpy p1_dragEighths o_dragEighths 0 0 4) p1_pieceCount p1_dragCount p1_settings p1_howFar p1_tones p1_currents p1_warmths p1_depths p1_fars p1_pieceCells p1_pieceMonths p1_pieceHighs p1_pieceAges p1_pieceNeeds p1_dragCells p1_dragEighths) H := hP
  have hD : va_D A (W_X4_take cyI cyJ cyO h_o h_p1 a_o_settings a_o_howFar a_o_tones a_o_currents a_o_warmths a_o_depths a_o_fars a_o_pieceCells a_o_pieceMonths a_o_pieceHighs a_o_pieceAges a_o_pieceNeeds a_o_dragCells a_o_dragEighths a_p1_settings a_p1_howFar a_p1_tones a_p1_currents a_p1_warmths a_p1_depths a_p1_fars a_p1_pieceCells a_p1_pieceMonths a_p1_pieceHighs a_p1_pieceAges a_p1_pieceNeeds a_p1_dragCells a_p1_dragEighths o_pieceCount o_dragCount (va_cpy p1_settings o_settings 0 0 8) (va_cpy p1_howFar o_howFar 0 0 7) (va_cpy p1_tones o_tones 0 0 7) (va_cpy p1_currents o_currents 0 0 200) (va_cpy p1_warmths o_warmths 0 0 200) (va_cpy p1_depths o_depths 0 0 100) (va_cpy p1_fars o_fars 0 0 100) (va_cpy p1_pieceCells o_pieceCells 0 0 4) (va_cpy p1_pieceMonths o_pieceMonths 0 0 4) (va_cpy p1_pieceHighs o_pieceHighs 0 0 4) (va_cpy p1_pieceAges o_pieceAges 0 0 4) (va_cpy p1_pieceNeeds o_pieceNeeds 0 0 4) (va_cpy p1_dragCells o_dragCells 0 0 4) (va_cpy p1_dragEighths o_dragEighths 0 0 4) p1_pieceCount p1_dragCount p1_settings p1_howFar p1_tones p1_currents p1_warmths p1_depths p1_fars p1_pieceCells p1_pieceMonths p1_pieceHighs p1_pieceAges p1_pieceNeeds p1_dragCells p1_dragEighths) := hD
  refine lv_aload_n hx hb dX4_take_205 rfl (lv_at hl 0 rfl) ?_
  refine lv_aload_n hx hb dX4_take_206 rfl (lv_at hl 1 rfl) ?_
  refine va_get (D := (dC, dI)) (ci := 4) (v := .int p1_pieceCount) (C := RX4) (T := TX4) (N := 16) hx hb hts hi4 hown hK hP 15 rfl rfl 14 (by decide) hq19 (fun _ h9 => h9) rfl dX4_take_207 ?_
  refine va_put (D := (dC, dI)) (ci := 4) (v := .int p1_pieceCount) (ty := .int) (C := RX4) (T := TX4) (N := 16) hx hb hts hi4 tyX4 tyX4_ok nmX4 hown hK hP hD hS 0 rfl rfl 14 (by decide) hq19 (fun _ h9 => h9) rfl (by decide +kernel) rfl rfl (Nat.le_of_ble_eq_true rfl) dX4_take_210 (fun H locs hP hD hS => ?_)
  have hP : va_P (dC, dI) vwCl (W_X4_take cyI cyJ cyO h_o h_p1 a_o_settings a_o_howFar a_o_tones a_o_currents a_o_warmths a_o_depths a_o_fars a_o_pieceCells a_o_pieceMonths a_o_pieceHighs a_o_pieceAges a_o_pieceNeeds a_o_dragCells a_o_dragEighths a_p1_settings a_p1_howFar a_p1_tones a_p1_currents a_p1_warmths a_p1_depths a_p1_fars a_p1_pieceCells a_p1_pieceMonths a_p1_pieceHighs a_p1_pieceAges a_p1_pieceNeeds a_p1_dragCells a_p1_dragEighths p1_pieceCount o_dragCount (va_cpy p1_settings o_settings 0 0 8) (va_cpy p1_howFar o_howFar 0 0 7) (va_cpy p1_tones o_tones 0 0 7) (va_cpy p1_currents o_currents 0 0 200) (va_cpy p1_warmths o_warmths 0 0 200) (va_cpy p1_depths o_depths 0 0 100) (va_cpy p1_fars o_fars 0 0 100) (va_cpy p1_pieceCells o_pieceCells 0 0 4) (va_cpy p1_pieceMonths o_pieceMonths 0 0 4) (va_cpy p1_pieceHighs o_pieceHighs 0 0 4) (va_cpy p1_pieceAges o_pieceAges 0 0 4) (va_cpy p1_pieceNeeds o_pieceNeeds 0 0 4) (va_cpy p1_dragCells o_dragCells 0 0 4) (va_cpy p1_dragEighths o_dragEighths 0 0 4) p1_pieceCount p1_dragCount p1_settings p1_howFar p1_tones p1_currents p1_warmths p1_depths p1_fars p1_pieceCells p1_pieceMonths p1_pieceHighs p1_pieceAges p1_pieceNeeds p1_dragCells p1_dragEighths) H := hP
  have hD : va_D A (W_X4_take cyI cyJ cyO h_o h_p1 a_o_settings a_o_howFar a_o_tones a_o_currents a_o_warmths a_o_depths a_o_fars a_o_pieceCells a_o_pieceMonths a_o_pieceHighs a_o_pieceAges a_o_pieceNeeds a_o_dragCells a_o_dragEighths a_p1_settings a_p1_howFar a_p1_tones a_p1_currents a_p1_warmths a_p1_depths a_p1_fars a_p1_pieceCells a_p1_pieceMonths a_p1_pieceHighs a_p1_pieceAges a_p1_pieceNeeds a_p1_dragCells a_p1_dragEighths p1_pieceCount o_dragCount (va_cpy p1_settings o_settings 0 0 8) (va_cpy p1_howFar o_howFar 0 0 7) (va_cpy p1_tones o_tones 0 0 7) (va_cpy p1_currents o_currents 0 0 200) (va_cpy p1_warmths o_warmths 0 0 200) (va_cpy p1_depths o_depths 0 0 100) (va_cpy p1_fars o_fars 0 0 100) (va_cpy p1_pieceCells o_pieceCells 0 0 4) (va_cpy p1_pieceMonths o_pieceMonths 0 0 4) (va_cpy p1_pieceHighs o_pieceHighs 0 0 4) (va_cpy p1_pieceAges o_pieceAges 0 0 4) (va_cpy p1_pieceNeeds o_pieceNeeds 0 0 4) (va_cpy p1_dragCells o_dragCells 0 0 4) (va_cpy p1_dragEighths o_dragEighths 0 0 4) p1_pieceCount p1_dragCount p1_settings p1_howFar p1_tones p1_currents p1_warmths p1_depths p1_fars p1_pieceCells p1_pieceMonths p1_pieceHighs p1_pieceAges p1_pieceNeeds p1_dragCells p1_dragEighths) := hD
  refine lv_aload_n hx hb dX4_take_213 rfl (lv_at hl 0 rfl) ?_
  refine lv_aload_n hx hb dX4_take_214 rfl (lv_at hl 1 rfl) ?_
  refine va_get (D := (dC, dI)) (ci := 4) (v := .int p1_dragCount) (C := RX4) (T := TX4) (N := 16) hx hb hts hi4 hown hK hP 15 rfl rfl 15 (by decide) hq20 (fun _ h9 => h9) rfl dX4_take_215 ?_
  refine va_put (D := (dC, dI)) (ci := 4) (v := .int p1_dragCount) (ty := .int) (C := RX4) (T := TX4) (N := 16) hx hb hts hi4 tyX4 tyX4_ok nmX4 hown hK hP hD hS 0 rfl rfl 15 (by decide) hq20 (fun _ h9 => h9) rfl (by decide +kernel) rfl rfl (Nat.le_of_ble_eq_true rfl) dX4_take_218 (fun H locs hP hD hS => ?_)
  have hP : va_P (dC, dI) vwCl (W_X4_take cyI cyJ cyO h_o h_p1 a_o_settings a_o_howFar a_o_tones a_o_currents a_o_warmths a_o_depths a_o_fars a_o_pieceCells a_o_pieceMonths a_o_pieceHighs a_o_pieceAges a_o_pieceNeeds a_o_dragCells a_o_dragEighths a_p1_settings a_p1_howFar a_p1_tones a_p1_currents a_p1_warmths a_p1_depths a_p1_fars a_p1_pieceCells a_p1_pieceMonths a_p1_pieceHighs a_p1_pieceAges a_p1_pieceNeeds a_p1_dragCells a_p1_dragEighths p1_pieceCount p1_dragCount (va_cpy p1_settings o_settings 0 0 8) (va_cpy p1_howFar o_howFar 0 0 7) (va_cpy p1_tones o_tones 0 0 7) (va_cpy p1_currents o_currents 0 0 200) (va_cpy p1_warmths o_warmths 0 0 200) (va_cpy p1_depths o_depths 0 0 100) (va_cpy p1_fars o_fars 0 0 100) (va_cpy p1_pieceCells o_pieceCells 0 0 4) (va_cpy p1_pieceMonths o_pieceMonths 0 0 4) (va_cpy p1_pieceHighs o_pieceHighs 0 0 4) (va_cpy p1_pieceAges o_pieceAges 0 0 4) (va_cpy p1_pieceNeeds o_pieceNeeds 0 0 4) (va_cpy p1_dragCells o_dragCells 0 0 4) (va_cpy p1_dragEighths o_dragEighths 0 0 4) p1_pieceCount p1_dragCount p1_settings p1_howFar p1_tones p1_currents p1_warmths p1_depths p1_fars p1_pieceCells p1_pieceMonths p1_pieceHighs p1_pieceAges p1_pieceNeeds p1_dragCells p1_dragEighths) H := hP
  have hD : va_D A (W_X4_take cyI cyJ cyO h_o h_p1 a_o_settings a_o_howFar a_o_tones a_o_currents a_o_warmths a_o_depths a_o_fars a_o_pieceCells a_o_pieceMonths a_o_pieceHighs a_o_pieceAges a_o_pieceNeeds a_o_dragCells a_o_dragEighths a_p1_settings a_p1_howFar a_p1_tones a_p1_currents a_p1_warmths a_p1_depths a_p1_fars a_p1_pieceCells a_p1_pieceMonths a_p1_pieceHighs a_p1_pieceAges a_p1_pieceNeeds a_p1_dragCells a_p1_dragEighths p1_pieceCount p1_dragCount (va_cpy p1_settings o_settings 0 0 8) (va_cpy p1_howFar o_howFar 0 0 7) (va_cpy p1_tones o_tones 0 0 7) (va_cpy p1_currents o_currents 0 0 200) (va_cpy p1_warmths o_warmths 0 0 200) (va_cpy p1_depths o_depths 0 0 100) (va_cpy p1_fars o_fars 0 0 100) (va_cpy p1_pieceCells o_pieceCells 0 0 4) (va_cpy p1_pieceMonths o_pieceMonths 0 0 4) (va_cpy p1_pieceHighs o_pieceHighs 0 0 4) (va_cpy p1_pieceAges o_pieceAges 0 0 4) (va_cpy p1_pieceNeeds o_pieceNeeds 0 0 4) (va_cpy p1_dragCells o_dragCells 0 0 4) (va_cpy p1_dragEighths o_dragEighths 0 0 4) p1_pieceCount p1_dragCount p1_settings p1_howFar p1_tones p1_currents p1_warmths p1_depths p1_fars p1_pieceCells p1_pieceMonths p1_pieceHighs p1_pieceAges p1_pieceNeeds p1_dragCells p1_dragEighths) := hD
  rw [hQ]
  exact W.vret hx hb hr (fun t ht hW => ⟨⟨(p1_pieceCount, p1_dragCount, va_cpy p1_settings o_settings 0 0 8, va_cpy p1_howFar o_howFar 0 0 7, va_cpy p1_tones o_tones 0 0 7, va_cpy p1_currents o_currents 0 0 200, va_cpy p1_warmths o_warmths 0 0 200, va_cpy p1_depths o_depths 0 0 100, va_cpy p1_fars o_fars 0 0 100, va_cpy p1_pieceCells o_pieceCells 0 0 4, va_cpy p1_pieceMonths o_pieceMonths 0 0 4, va_cpy p1_pieceHighs o_pieceHighs 0 0 4, va_cpy p1_pieceAges o_pieceAges 0 0 4, va_cpy p1_pieceNeeds o_pieceNeeds 0 0 4, va_cpy p1_dragCells o_dragCells 0 0 4, va_cpy p1_dragEighths o_dragEighths 0 0 4), rfl, okS hw, by rw [ht]; exact hP, va_K.moved hW.alike hK, hD⟩, hS.F ht⟩) hS.2.2 dX4_take_221
/-! ===== X4_isDragged ===== -/
theorem dX4_isDragged_0 : decode cX4_isDragged 0 = .ok (.iconst 0, 1) := by decide +kernel
theorem dX4_isDragged_1 : decode cX4_isDragged 1 = .ok (.istore_n 2, 1) := by decide +kernel
theorem dX4_isDragged_2 : decode cX4_isDragged 2 = .ok (.iload_n 2, 1) := by decide +kernel
theorem dX4_isDragged_3 : decode cX4_isDragged 3 = .ok (.aload_n 0, 1) := by decide +kernel
theorem dX4_isDragged_4 : decode cX4_isDragged 4 = .ok (.getfield 58, 3) := by decide +kernel
theorem dX4_isDragged_7 : decode cX4_isDragged 7 = .ok (.if_icmp .ge 26, 3) := by decide +kernel
theorem dX4_isDragged_10 : decode cX4_isDragged 10 = .ok (.iload_n 2, 1) := by decide +kernel
theorem dX4_isDragged_11 : decode cX4_isDragged 11 = .ok (.iconst 4, 1) := by decide +kernel
theorem dX4_isDragged_12 : decode cX4_isDragged 12 = .ok (.if_icmp .ge 21, 3) := by decide +kernel
theorem dX4_isDragged_15 : decode cX4_isDragged 15 = .ok (.aload_n 0, 1) := by decide +kernel
theorem dX4_isDragged_16 : decode cX4_isDragged 16 = .ok (.getfield 48, 3) := by decide +kernel
theorem dX4_isDragged_19 : decode cX4_isDragged 19 = .ok (.iload_n 2, 1) := by decide +kernel
theorem dX4_isDragged_20 : decode cX4_isDragged 20 = .ok (.iaload, 1) := by decide +kernel
theorem dX4_isDragged_21 : decode cX4_isDragged 21 = .ok (.iload_n 1, 1) := by decide +kernel
theorem dX4_isDragged_22 : decode cX4_isDragged 22 = .ok (.if_icmp .ne 5, 3) := by decide +kernel
theorem dX4_isDragged_25 : decode cX4_isDragged 25 = .ok (.iconst 1, 1) := by decide +kernel
theorem dX4_isDragged_26 : decode cX4_isDragged 26 = .ok (.ireturn, 1) := by decide +kernel
theorem dX4_isDragged_27 : decode cX4_isDragged 27 = .ok (.iinc 2 1, 3) := by decide +kernel
theorem dX4_isDragged_30 : decode cX4_isDragged 30 = .ok (.goto (-28), 3) := by decide +kernel
theorem dX4_isDragged_33 : decode cX4_isDragged 33 = .ok (.iconst 0, 1) := by decide +kernel
theorem dX4_isDragged_34 : decode cX4_isDragged 34 = .ok (.ireturn, 1) := by decide +kernel
abbrev W_X4_isDragged (cyI cyJ cyO : ClassId) (h_o a_o_settings a_o_howFar a_o_tones a_o_currents a_o_warmths a_o_depths a_o_fars a_o_pieceCells a_o_pieceMonths a_o_pieceHighs a_o_pieceAges a_o_pieceNeeds a_o_dragCells a_o_dragEighths : Nat) (o_pieceCount : Int32) (o_dragCount : Int32) (o_dragCells : Nat → Int32) : va_W := [(h_o, .inr (4, [.ref a_o_settings, .ref a_o_howFar, .ref a_o_tones, .ref a_o_currents, .ref a_o_warmths, .ref a_o_depths, .ref a_o_fars, .ref a_o_pieceCells, .ref a_o_pieceMonths, .ref a_o_pieceHighs, .ref a_o_pieceAges, .ref a_o_pieceNeeds, .ref a_o_dragCells, .ref a_o_dragEighths, .int o_pieceCount, .int o_dragCount])), (a_o_dragCells, .inl (cyI, 4, .inl o_dragCells))]
def f_X4_isDragged_L2b (k2 : Int32 → Int32 → Int32 → (Nat → Int32) → Option (Int32)) (v1 : Int32) (v2 : Int32) (o_dragCount : Int32) (o_dragCells : Nat → Int32) : Option (Int32) :=
  if o_dragCount ≤ v2 then
    some 0
  else
    if 4 ≤ v2 then
      some 0
    else
      chk (¬ (v2 < 0 ∨ 4 ≤ v2.toNatClampNeg)) <|
      if (o_dragCells v2.toNatClampNeg) = v1 then
        some 1
      else
        nm (v2 + 1) fun x_1 =>
        k2 v1 x_1 o_dragCount o_dragCells
def f_X4_isDragged_L2 : Nat → Int32 → Int32 → Int32 → (Nat → Int32) → Option (Int32)
  | 0 => fun _ _ _ _ => none
  | n + 1 => f_X4_isDragged_L2b (f_X4_isDragged_L2 n)
def f_X4_isDragged (x1 : Int32) (o_dragCount : Int32) (o_dragCells : Nat → Int32) : Option (Int32) :=
  f_X4_isDragged_L2 FU x1 0 o_dragCount o_dragCells
abbrev rm_X4_isDragged : Room := { frames := 0, cells := 0, slots := 0, locals := 0 }
set_option maxRecDepth 100000 in
set_option maxHeartbeats 4000000 in
theorem c_X4_isDragged (l : Launch) (dC : Nat → ClassId) (dI : Nat → Nat → Nat) (cyI cyJ cyO : ClassId) (sz : Nat) (h_o a_o_settings a_o_howFar a_o_tones a_o_currents a_o_warmths a_o_depths a_o_fars a_o_pieceCells a_o_pieceMonths a_o_pieceHighs a_o_pieceAges a_o_pieceNeeds a_o_dragCells a_o_dragEighths : Nat) (o_pieceCount : Int32) (o_dragCount : Int32) (o_dragCells : Nat → Int32) (x1 : Int32) (post : Int32 → Prop) (hf : okP (f_X4_isDragged x1 o_dragCount o_dragCells) post) : Ci l (dC, dI) (tyL cyI cyJ cyO) yX4_isDragged wsX4_isDragged rm_X4_isDragged [.ref h_o, .int x1] sz (W_X4_isDragged cyI cyJ cyO h_o a_o_settings a_o_howFar a_o_tones a_o_currents a_o_warmths a_o_depths a_o_fars a_o_pieceCells a_o_pieceMonths a_o_pieceHighs a_o_pieceAges a_o_pieceNeeds a_o_dragCells a_o_dragEighths o_pieceCount o_dragCount o_dragCells) zN (fun r (_ : Unit) => post r) (fun _ => (W_X4_isDragged cyI cyJ cyO h_o a_o_settings a_o_howFar a_o_tones a_o_currents a_o_warmths a_o_depths a_o_fars a_o_pieceCells a_o_pieceMonths a_o_pieceHighs a_o_pieceAges a_o_pieceNeeds a_o_dragCells a_o_dragEighths o_pieceCount o_dragCount o_dragCells)) := by
  refine Met.ofW (cc := cX4_isDragged) (maxL := 3) (ret := (some .boolean)) (by decide) rfl ?_
  intro p e s m args below meth c s₁ B hml hv
  obtain ⟨rfl, hsz, hP, hK, hD0, hZ⟩ := hv
  have hx := B.exec
  have hb := B.bytes
  have hr := B.returns
  have hts := atoms_spec (ws := wsX4_isDragged) B.pre
  have hown : s.vm.findClass RX4 = some m.cls := findClass_of_methodNamed B.named
  have hlocks := B.notSynchronized
  subst hsz
  have hD := hD0.self (sz := s.heap.size)
  generalize hAe : va_A (W_X4_isDragged cyI cyJ cyO h_o a_o_settings a_o_howFar a_o_tones a_o_currents a_o_warmths a_o_depths a_o_fars a_o_pieceCells a_o_pieceMonths a_o_pieceHighs a_o_pieceAges a_o_pieceNeeds a_o_dragCells a_o_dragEighths o_pieceCount o_dragCount o_dragCells) s.heap.size = A at hD hZ ⊢
  have hA : ∀ q : Nat, s.heap.size ≤ q → A q := fun q h => by rw [← hAe]; exact Or.inr h
  clear hAe hD0
  have hS : va_S A s.heap s.heap [] := va_S.rf
  have hl := lv_entry ([.ref h_o, .int x1]) (n := 3) (Nat.le_of_ble_eq_true rfl)
  rw [lg_entry_eq]
  generalize (lg_sl ([.ref h_o, .int x1]) ++ List.replicate (3 - (lg_sl ([.ref h_o, .int x1])).length) Slot.unset).toArray = ls at hl ⊢
  have hl : lv_has ls 3 [(0, .ref h_o), (1, .int x1)] := hl
  refine kW (fun Q hQ => ?_)
  have hq0 := hts _ (List.mem_cons_of_mem _ q_75)
  have hi4 : ∀ w ∈ u_ws RX4 TX4 16, w ∈ wsX4_isDragged := fun w h => List.mem_cons_of_mem _ (inX4 w h)
  have hq2 := hts _ (List.mem_cons_of_mem _ q_68)
  have hw := hf
  have w2 : ∀ (n : Nat), ∀ (v1 : Int32) (v2 : Int32) (H : Heap) (locs : List Loc), va_P (dC, dI) vwCl (W_X4_isDragged cyI cyJ cyO h_o a_o_settings a_o_howFar a_o_tones a_o_currents a_o_warmths a_o_depths a_o_fars a_o_pieceCells a_o_pieceMonths a_o_pieceHighs a_o_pieceAges a_o_pieceNeeds a_o_dragCells a_o_dragEighths o_pieceCount o_dragCount o_dragCells) H → va_D A (W_X4_isDragged cyI cyJ cyO h_o a_o_settings a_o_howFar a_o_tones a_o_currents a_o_warmths a_o_depths a_o_fars a_o_pieceCells a_o_pieceMonths a_o_pieceHighs a_o_pieceAges a_o_pieceNeeds a_o_dragCells a_o_dragEighths o_pieceCount o_dragCount o_dragCells) → va_S A s.heap H locs → ∀ (ls : Array Slot), lv_has ls 3 [(0, .ref h_o), (1, .int v1), (2, .int v2)] → okP (f_X4_isDragged_L2 n v1 v2 o_dragCount o_dragCells) post → W p l e (headSpec wsX4_isDragged rm_X4_isDragged).room s m ([.ref h_o, .int x1] : List Value).toArray below meth c H locs 0 0 Q (F0 m 2 ls []) := by
    intro n
    induction n with
    | zero =>
      intro v1 v2 H locs hP hD hS ls hl hw
      exact (ok0 hw).elim
    | succ n2 ih2 =>
      intro v1 v2 H locs hP hD hS ls hl hw
      replace hw : okP (f_X4_isDragged_L2b (f_X4_isDragged_L2 n2) v1 v2 o_dragCount o_dragCells) post := hw
      unfold f_X4_isDragged_L2b at hw
      refine lv_iload_n hx hb dX4_isDragged_2 rfl (lv_at hl 2 rfl) ?_
      refine lv_aload_n hx hb dX4_isDragged_3 rfl (lv_at hl 0 rfl) ?_
      refine va_get (D := (dC, dI)) (ci := 4) (v := .int o_dragCount) (C := RX4) (T := TX4) (N := 16) hx hb hts hi4 hown hK hP 0 rfl rfl 15 (by decide) hq0 (fun _ h9 => h9) rfl dX4_isDragged_4 ?_
      refine lv_icmp_ge (tgt := 33) hx hb dX4_isDragged_7 (by decide) (fun c_1 => ?_) (fun c_1 => ?_)
      · replace hw := okT hw c_1
        clear c_1
        refine lv_iconst (v := 0) hx hb dX4_isDragged_33 (by decide) ?_
        rw [hQ]
        exact W.zret (v := 0) hx hb hr (by decide) (fun t ht hW => ⟨⟨0, (), rfl, okS hw, by rw [ht]; exact hP, va_K.moved hW.alike hK, hD⟩, hS.F ht⟩) hS.2.2 dX4_isDragged_34
      · replace hw := okF hw c_1
        clear c_1
        refine lv_iload_n hx hb dX4_isDragged_10 rfl (lv_at hl 2 rfl) ?_
        refine lv_iconst (v := 4) hx hb dX4_isDragged_11 (by decide) ?_
        refine lv_icmp_ge (tgt := 33) hx hb dX4_isDragged_12 (by decide) (fun c_2 => ?_) (fun c_2 => ?_)
        · replace hw := okT hw c_2
          clear c_2
          refine lv_iconst (v := 0) hx hb dX4_isDragged_33 (by decide) ?_
          rw [hQ]
          exact W.zret (v := 0) hx hb hr (by decide) (fun t ht hW => ⟨⟨0, (), rfl, okS hw, by rw [ht]; exact hP, va_K.moved hW.alike hK, hD⟩, hS.F ht⟩) hS.2.2 dX4_isDragged_34
        · replace hw := okF hw c_2
          clear c_2
          refine lv_aload_n hx hb dX4_isDragged_15 rfl (lv_at hl 0 rfl) ?_
          refine va_get (D := (dC, dI)) (ci := 4) (v := .ref a_o_dragCells) (C := RX4) (T := TX4) (N := 16) hx hb hts hi4 hown hK hP 0 rfl rfl 12 (by decide) hq2 (fun _ h9 => h9) rfl dX4_isDragged_16 ?_
          refine lv_iload_n hx hb dX4_isDragged_19 rfl (lv_at hl 2 rfl) ?_
          obtain ⟨h_3, hw⟩ := okC hw
          refine va_iald (i := v2) hx hb hK hP 1 0 rfl rfl h_3 dX4_isDragged_20 ?_
          refine lv_iload_n hx hb dX4_isDragged_21 rfl (lv_at hl 1 rfl) ?_
          refine lv_icmp_ne (tgt := 27) hx hb dX4_isDragged_22 (by decide) (fun c_4 => ?_) (fun c_4 => ?_)
          · replace hw := okF hw c_4
            clear c_4
            obtain ⟨x_5, ex_5⟩ : ∃ y : Int32, y = v2 + 1 := ⟨_, rfl⟩
            replace hw := okN ex_5 hw
            refine lv_iinc (v := x_5) (lv' := [(2, .int x_5), (0, .ref h_o), (1, .int v1)]) hx hb dX4_isDragged_27 hl (k := 2) rfl (by rw [ex_5]; rfl) (by decide) rfl (fun ls hl => ?_)
            clear ex_5
            refine lv_goto (tgt := 2) hx hb dX4_isDragged_30 (by decide) ?_
            exact ih2 v1 x_5 _ _ hP hD hS _ (lv_sub hl [1, 2, 0] rfl) hw
          · replace hw := okT hw c_4
            clear c_4
            refine lv_iconst (v := 1) hx hb dX4_isDragged_25 (by decide) ?_
            rw [hQ]
            exact W.zret (v := 1) hx hb hr (by decide) (fun t ht hW => ⟨⟨1, (), rfl, okS hw, by rw [ht]; exact hP, va_K.moved hW.alike hK, hD⟩, hS.F ht⟩) hS.2.2 dX4_isDragged_26
  unfold f_X4_isDragged at hw
  have hP : va_P (dC, dI) vwCl (W_X4_isDragged cyI cyJ cyO h_o a_o_settings a_o_howFar a_o_tones a_o_currents a_o_warmths a_o_depths a_o_fars a_o_pieceCells a_o_pieceMonths a_o_pieceHighs a_o_pieceAges a_o_pieceNeeds a_o_dragCells a_o_dragEighths o_pieceCount o_dragCount o_dragCells) s.heap := hP
  obtain ⟨H, hH⟩ : ∃ H, H = s.heap := ⟨_, rfl⟩
  obtain ⟨locs, hlo⟩ : ∃ x : List Loc, x = [] := ⟨_, rfl⟩
  have hP : va_P (dC, dI) vwCl (W_X4_isDragged cyI cyJ cyO h_o a_o_settings a_o_howFar a_o_tones a_o_currents a_o_warmths a_o_depths a_o_fars a_o_pieceCells a_o_pieceMonths a_o_pieceHighs a_o_pieceAges a_o_pieceNeeds a_o_dragCells a_o_dragEighths o_pieceCount o_dragCount o_dragCells) H := by rw [hH]; exact hP
  have hS : va_S A s.heap H locs := by rw [hH, hlo]; exact hS
  refine kH hH hlo ?_
  clear hH hlo
  refine lv_iconst (v := 0) hx hb dX4_isDragged_0 (by decide) ?_
  refine lv_istore_n (lv' := [(2, .int 0), (0, .ref h_o), (1, .int x1)]) hx hb dX4_isDragged_1 rfl hl (by decide) rfl (fun ls hl => ?_)
  exact w2 FU x1 0 _ _ hP hD hS _ (lv_sub hl [1, 2, 0] rfl) hw
/-! ===== X4_missed ===== -/
theorem dX4_missed_0 : decode cX4_missed 0 = .ok (.lconst 1, 1) := by decide +kernel
theorem dX4_missed_1 : decode cX4_missed 1 = .ok (.lstore_n 2, 1) := by decide +kernel
theorem dX4_missed_2 : decode cX4_missed 2 = .ok (.iconst 0, 1) := by decide +kernel
theorem dX4_missed_3 : decode cX4_missed 3 = .ok (.istore 4, 2) := by decide +kernel
theorem dX4_missed_5 : decode cX4_missed 5 = .ok (.iload 4, 2) := by decide +kernel
theorem dX4_missed_7 : decode cX4_missed 7 = .ok (.aload_n 0, 1) := by decide +kernel
theorem dX4_missed_8 : decode cX4_missed 8 = .ok (.getfield 58, 3) := by decide +kernel
theorem dX4_missed_11 : decode cX4_missed 11 = .ok (.if_icmp .ge 46, 3) := by decide +kernel
theorem dX4_missed_14 : decode cX4_missed 14 = .ok (.iload 4, 2) := by decide +kernel
theorem dX4_missed_16 : decode cX4_missed 16 = .ok (.iconst 4, 1) := by decide +kernel
theorem dX4_missed_17 : decode cX4_missed 17 = .ok (.if_icmp .ge 40, 3) := by decide +kernel
theorem dX4_missed_20 : decode cX4_missed 20 = .ok (.lload_n 2, 1) := by decide +kernel
theorem dX4_missed_21 : decode cX4_missed 21 = .ok (.aload_n 0, 1) := by decide +kernel
theorem dX4_missed_22 : decode cX4_missed 22 = .ok (.getfield 48, 3) := by decide +kernel
theorem dX4_missed_25 : decode cX4_missed 25 = .ok (.iload 4, 2) := by decide +kernel
theorem dX4_missed_27 : decode cX4_missed 27 = .ok (.iaload, 1) := by decide +kernel
theorem dX4_missed_28 : decode cX4_missed 28 = .ok (.iload_n 1, 1) := by decide +kernel
theorem dX4_missed_29 : decode cX4_missed 29 = .ok (.if_icmp .ne 17, 3) := by decide +kernel
theorem dX4_missed_32 : decode cX4_missed 32 = .ok (.bipush 8, 2) := by decide +kernel
theorem dX4_missed_34 : decode cX4_missed 34 = .ok (.aload_n 0, 1) := by decide +kernel
theorem dX4_missed_35 : decode cX4_missed 35 = .ok (.getfield 51, 3) := by decide +kernel
theorem dX4_missed_38 : decode cX4_missed 38 = .ok (.iload 4, 2) := by decide +kernel
theorem dX4_missed_40 : decode cX4_missed 40 = .ok (.iaload, 1) := by decide +kernel
theorem dX4_missed_41 : decode cX4_missed 41 = .ok (.isub, 1) := by decide +kernel
theorem dX4_missed_42 : decode cX4_missed 42 = .ok (.i2l, 1) := by decide +kernel
theorem dX4_missed_43 : decode cX4_missed 43 = .ok (.goto 6, 3) := by decide +kernel
theorem dX4_missed_46 : decode cX4_missed 46 = .ok (.ldc2_w 74, 3) := by decide +kernel
theorem dX4_missed_49 : decode cX4_missed 49 = .ok (.lmul, 1) := by decide +kernel
theorem dX4_missed_50 : decode cX4_missed 50 = .ok (.lstore_n 2, 1) := by decide +kernel
theorem dX4_missed_51 : decode cX4_missed 51 = .ok (.iinc 4 1, 3) := by decide +kernel
theorem dX4_missed_54 : decode cX4_missed 54 = .ok (.goto (-49), 3) := by decide +kernel
theorem dX4_missed_57 : decode cX4_missed 57 = .ok (.lload_n 2, 1) := by decide +kernel
theorem dX4_missed_58 : decode cX4_missed 58 = .ok (.lreturn, 1) := by decide +kernel
abbrev W_X4_missed (cyI cyJ cyO : ClassId) (h_o a_o_settings a_o_howFar a_o_tones a_o_currents a_o_warmths a_o_depths a_o_fars a_o_pieceCells a_o_pieceMonths a_o_pieceHighs a_o_pieceAges a_o_pieceNeeds a_o_dragCells a_o_dragEighths : Nat) (o_pieceCount : Int32) (o_dragCount : Int32) (o_dragCells : Nat → Int32) (o_dragEighths : Nat → Int32) : va_W := [(h_o, .inr (4, [.ref a_o_settings, .ref a_o_howFar, .ref a_o_tones, .ref a_o_currents, .ref a_o_warmths, .ref a_o_depths, .ref a_o_fars, .ref a_o_pieceCells, .ref a_o_pieceMonths, .ref a_o_pieceHighs, .ref a_o_pieceAges, .ref a_o_pieceNeeds, .ref a_o_dragCells, .ref a_o_dragEighths, .int o_pieceCount, .int o_dragCount])), (a_o_dragCells, .inl (cyI, 4, .inl o_dragCells)), (a_o_dragEighths, .inl (cyI, 4, .inl o_dragEighths))]
def f_X4_missed_B49 (k5 : Int32 → Int64 → Int32 → Int32 → (Nat → Int32) → (Nat → Int32) → Option (Int64)) (v1 : Int32) (v4 : Int32) (y0 : Int64) (y1 : Int64) (o_dragCount : Int32) (o_dragCells : Nat → Int32) (o_dragEighths : Nat → Int32) : Option (Int64) :=
  nm (y1 * y0) fun x_1 =>
  nm (v4 + 1) fun x_2 =>
  k5 v1 x_1 x_2 o_dragCount o_dragCells o_dragEighths
def f_X4_missed_L5b (k5 : Int32 → Int64 → Int32 → Int32 → (Nat → Int32) → (Nat → Int32) → Option (Int64)) (v1 : Int32) (v2 : Int64) (v4 : Int32) (o_dragCount : Int32) (o_dragCells : Nat → Int32) (o_dragEighths : Nat → Int32) : Option (Int64) :=
  if o_dragCount ≤ v4 then
    some v2
  else
    if 4 ≤ v4 then
      some v2
    else
      chk (¬ (v4 < 0 ∨ 4 ≤ v4.toNatClampNeg)) <|
      if (o_dragCells v4.toNatClampNeg) = v1 then
        chk (¬ (v4 < 0 ∨ 4 ≤ v4.toNatClampNeg)) <|
        f_X4_missed_B49 k5 v1 v4 ((8 - (o_dragEighths v4.toNatClampNeg)).toInt64) v2 o_dragCount o_dragCells o_dragEighths
      else
        f_X4_missed_B49 k5 v1 v4 8 v2 o_dragCount o_dragCells o_dragEighths
def f_X4_missed_L5 : Nat → Int32 → Int64 → Int32 → Int32 → (Nat → Int32) → (Nat → Int32) → Option (Int64)
  | 0 => fun _ _ _ _ _ _ => none
  | n + 1 => f_X4_missed_L5b (f_X4_missed_L5 n)
def f_X4_missed (x1 : Int32) (o_dragCount : Int32) (o_dragCells : Nat → Int32) (o_dragEighths : Nat → Int32) : Option (Int64) :=
  f_X4_missed_L5 FU x1 1 0 o_dragCount o_dragCells o_dragEighths
abbrev rm_X4_missed : Room := { frames := 0, cells := 0, slots := 0, locals := 0 }
set_option maxRecDepth 100000 in
set_option maxHeartbeats 4000000 in
theorem c_X4_missed (l : Launch) (dC : Nat → ClassId) (dI : Nat → Nat → Nat) (cyI cyJ cyO : ClassId) (sz : Nat) (h_o a_o_settings a_o_howFar a_o_tones a_o_currents a_o_warmths a_o_depths a_o_fars a_o_pieceCells a_o_pieceMonths a_o_pieceHighs a_o_pieceAges a_o_pieceNeeds a_o_dragCells a_o_dragEighths : Nat) (o_pieceCount : Int32) (o_dragCount : Int32) (o_dragCells : Nat → Int32) (o_dragEighths : Nat → Int32) (x1 : Int32) (post : Int64 → Prop) (hf : okP (f_X4_missed x1 o_dragCount o_dragCells o_dragEighths) post) : Cl l (dC, dI) (tyL cyI cyJ cyO) yX4_missed wsX4_missed rm_X4_missed [.ref h_o, .int x1] sz (W_X4_missed cyI cyJ cyO h_o a_o_settings a_o_howFar a_o_tones a_o_currents a_o_warmths a_o_depths a_o_fars a_o_pieceCells a_o_pieceMonths a_o_pieceHighs a_o_pieceAges a_o_pieceNeeds a_o_dragCells a_o_dragEighths o_pieceCount o_dragCount o_dragCells o_dragEighths) zN (fun r (_ : Unit) => post r) (fun _ => (W_X4_missed cyI cyJ cyO h_o a_o_settings a_o_howFar a_o_tones a_o_currents a_o_warmths a_o_depths a_o_fars a_o_pieceCells a_o_pieceMonths a_o_pieceHighs a_o_pieceAges a_o_pieceNeeds a_o_dragCells a_o_dragEighths o_pieceCount o_dragCount o_dragCells o_dragEighths)) := by
  refine Met.ofW (cc := cX4_missed) (maxL := 5) (ret := (some .long)) (by decide) rfl ?_
  intro p e s m args below meth c s₁ B hml hv
  obtain ⟨rfl, hsz, hP, hK, hD0, hZ⟩ := hv
  have hx := B.exec
  have hb := B.bytes
  have hr := B.returns
  have hts := atoms_spec (ws := wsX4_missed) B.pre
  have hown : s.vm.findClass RX4 = some m.cls := findClass_of_methodNamed B.named
  have hlocks := B.notSynchronized
  subst hsz
  have hD := hD0.self (sz := s.heap.size)
  generalize hAe : va_A (W_X4_missed cyI cyJ cyO h_o a_o_settings a_o_howFar a_o_tones a_o_currents a_o_warmths a_o_depths a_o_fars a_o_pieceCells a_o_pieceMonths a_o_pieceHighs a_o_pieceAges a_o_pieceNeeds a_o_dragCells a_o_dragEighths o_pieceCount o_dragCount o_dragCells o_dragEighths) s.heap.size = A at hD hZ ⊢
  have hA : ∀ q : Nat, s.heap.size ≤ q → A q := fun q h => by rw [← hAe]; exact Or.inr h
  clear hAe hD0
  have hS : va_S A s.heap s.heap [] := va_S.rf
  have hl := lv_entry ([.ref h_o, .int x1]) (n := 5) (Nat.le_of_ble_eq_true rfl)
  rw [lg_entry_eq]
  generalize (lg_sl ([.ref h_o, .int x1]) ++ List.replicate (5 - (lg_sl ([.ref h_o, .int x1])).length) Slot.unset).toArray = ls at hl ⊢
  have hl : lv_has ls 5 [(0, .ref h_o), (1, .int x1)] := hl
  refine kW (fun Q hQ => ?_)
  have hq0 := hts _ (List.mem_cons_of_mem _ q_75)
  have hi4 : ∀ w ∈ u_ws RX4 TX4 16, w ∈ wsX4_missed := fun w h => List.mem_cons_of_mem _ (inX4 w h)
  have hq2 := hts _ (List.mem_cons_of_mem _ q_68)
  have hq3 := hts _ (List.mem_cons_of_mem _ q_548)
  have hq4 := hts _ (List.mem_cons_of_mem _ q_70)
  have hw := hf
  have w5 : ∀ (n : Nat), ∀ (v1 : Int32) (v2 : Int64) (v4 : Int32) (H : Heap) (locs : List Loc), va_P (dC, dI) vwCl (W_X4_missed cyI cyJ cyO h_o a_o_settings a_o_howFar a_o_tones a_o_currents a_o_warmths a_o_depths a_o_fars a_o_pieceCells a_o_pieceMonths a_o_pieceHighs a_o_pieceAges a_o_pieceNeeds a_o_dragCells a_o_dragEighths o_pieceCount o_dragCount o_dragCells o_dragEighths) H → va_D A (W_X4_missed cyI cyJ cyO h_o a_o_settings a_o_howFar a_o_tones a_o_currents a_o_warmths a_o_depths a_o_fars a_o_pieceCells a_o_pieceMonths a_o_pieceHighs a_o_pieceAges a_o_pieceNeeds a_o_dragCells a_o_dragEighths o_pieceCount o_dragCount o_dragCells o_dragEighths) → va_S A s.heap H locs → ∀ (ls : Array Slot), lv_has ls 5 [(0, .ref h_o), (1, .int v1), (2, .long v2), (4, .int v4)] → okP (f_X4_missed_L5 n v1 v2 v4 o_dragCount o_dragCells o_dragEighths) post → W p l e (headSpec wsX4_missed rm_X4_missed).room s m ([.ref h_o, .int x1] : List Value).toArray below meth c H locs 0 0 Q (F0 m 5 ls []) := by
    intro n
    induction n with
    | zero =>
      intro v1 v2 v4 H locs hP hD hS ls hl hw
      exact (ok0 hw).elim
    | succ n5 ih5 =>
      have w49 : ∀ (v1 : Int32) (v4 : Int32) (y0 : Int64) (y1 : Int64) (H : Heap) (locs : List Loc), va_P (dC, dI) vwCl (W_X4_missed cyI cyJ cyO h_o a_o_settings a_o_howFar a_o_tones a_o_currents a_o_warmths a_o_depths a_o_fars a_o_pieceCells a_o_pieceMonths a_o_pieceHighs a_o_pieceAges a_o_pieceNeeds a_o_dragCells a_o_dragEighths o_pieceCount o_dragCount o_dragCells o_dragEighths) H → va_D A (W_X4_missed cyI cyJ cyO h_o a_o_settings a_o_howFar a_o_tones a_o_currents a_o_warmths a_o_depths a_o_fars a_o_pieceCells a_o_pieceMonths a_o_pieceHighs a_o_pieceAges a_o_pieceNeeds a_o_dragCells a_o_dragEighths o_pieceCount o_dragCount o_dragCells o_dragEighths) → va_S A s.heap H locs → ∀ (ls : Array Slot), lv_has ls 5 [(0, .ref h_o), (1, .int v1), (4, .int v4)] → okP (f_X4_missed_B49 (f_X4_missed_L5 n5) v1 v4 y0 y1 o_dragCount o_dragCells o_dragEighths) post → W p l e (headSpec wsX4_missed rm_X4_missed).room s m ([.ref h_o, .int x1] : List Value).toArray below meth c H locs 0 0 Q (F0 m 49 ls [.long y0, .long y1]) := by
        intro v1 v4 y0 y1 H locs hP hD hS ls hl hw
        unfold f_X4_missed_B49 at hw
        refine lv_lmul hx hb dX4_missed_49 ?_
        refine lv_topl (fun x_1 ex_1 => ?_)
        replace hw := okN ex_1 hw
        clear ex_1
        refine lv_lstore_n (lv' := [(2, .long x_1), (0, .ref h_o), (1, .int v1), (4, .int v4)]) hx hb dX4_missed_50 rfl hl (by decide) rfl (fun ls hl => ?_)
        obtain ⟨x_2, ex_2⟩ : ∃ y : Int32, y = v4 + 1 := ⟨_, rfl⟩
        replace hw := okN ex_2 hw
        refine lv_iinc (v := x_2) (lv' := [(4, .int x_2), (2, .long x_1), (0, .ref h_o), (1, .int v1)]) hx hb dX4_missed_51 hl (k := 3) rfl (by rw [ex_2]; rfl) (by decide) rfl (fun ls hl => ?_)
        clear ex_2
        refine lv_goto (tgt := 5) hx hb dX4_missed_54 (by decide) ?_
        exact ih5 v1 x_1 x_2 _ _ hP hD hS _ (lv_sub hl [2, 3, 1, 0] rfl) hw
      intro v1 v2 v4 H locs hP hD hS ls hl hw
      replace hw : okP (f_X4_missed_L5b (f_X4_missed_L5 n5) v1 v2 v4 o_dragCount o_dragCells o_dragEighths) post := hw
      unfold f_X4_missed_L5b at hw
      refine lv_iload hx hb dX4_missed_5 (lv_at hl 3 rfl) ?_
      refine lv_aload_n hx hb dX4_missed_7 rfl (lv_at hl 0 rfl) ?_
      refine va_get (D := (dC, dI)) (ci := 4) (v := .int o_dragCount) (C := RX4) (T := TX4) (N := 16) hx hb hts hi4 hown hK hP 0 rfl rfl 15 (by decide) hq0 (fun _ h9 => h9) rfl dX4_missed_8 ?_
      refine lv_icmp_ge (tgt := 57) hx hb dX4_missed_11 (by decide) (fun c_3 => ?_) (fun c_3 => ?_)
      · replace hw := okT hw c_3
        clear c_3
        refine lv_lload_n hx hb dX4_missed_57 rfl (lv_at hl 2 rfl) ?_
        rw [hQ]
        exact W.lret (v := v2) hx hb hr (fun t ht hW => ⟨⟨v2, (), rfl, okS hw, by rw [ht]; exact hP, va_K.moved hW.alike hK, hD⟩, hS.F ht⟩) hS.2.2 dX4_missed_58
      · replace hw := okF hw c_3
        clear c_3
        refine lv_iload hx hb dX4_missed_14 (lv_at hl 3 rfl) ?_
        refine lv_iconst (v := 4) hx hb dX4_missed_16 (by decide) ?_
        refine lv_icmp_ge (tgt := 57) hx hb dX4_missed_17 (by decide) (fun c_4 => ?_) (fun c_4 => ?_)
        · replace hw := okT hw c_4
          clear c_4
          refine lv_lload_n hx hb dX4_missed_57 rfl (lv_at hl 2 rfl) ?_
          rw [hQ]
          exact W.lret (v := v2) hx hb hr (fun t ht hW => ⟨⟨v2, (), rfl, okS hw, by rw [ht]; exact hP, va_K.moved hW.alike hK, hD⟩, hS.F ht⟩) hS.2.2 dX4_missed_58
        · replace hw := okF hw c_4
          clear c_4
          refine lv_lload_n hx hb dX4_missed_20 rfl (lv_at hl 2 rfl) ?_
          refine lv_aload_n hx hb dX4_missed_21 rfl (lv_at hl 0 rfl) ?_
          refine va_get (D := (dC, dI)) (ci := 4) (v := .ref a_o_dragCells) (C := RX4) (T := TX4) (N := 16) hx hb hts hi4 hown hK hP 0 rfl rfl 12 (by decide) hq2 (fun _ h9 => h9) rfl dX4_missed_22 ?_
          refine lv_iload hx hb dX4_missed_25 (lv_at hl 3 rfl) ?_
          obtain ⟨h_5, hw⟩ := okC hw
          refine va_iald (i := v4) hx hb hK hP 1 0 rfl rfl h_5 dX4_missed_27 ?_
          refine lv_iload_n hx hb dX4_missed_28 rfl (lv_at hl 1 rfl) ?_
          refine lv_icmp_ne (tgt := 46) hx hb dX4_missed_29 (by decide) (fun c_6 => ?_) (fun c_6 => ?_)
          · replace hw := okF hw c_6
            clear c_6
            refine lv_ldc2 (v := 8) hx hb hown hq3 dX4_missed_46 ?_
            exact w49 v1 v4 8 v2 _ _ hP hD hS _ (lv_sub hl [0, 1, 3] rfl) hw
          · replace hw := okT hw c_6
            clear c_6
            refine lv_bipush (v := 8) hx hb dX4_missed_32 (by decide) ?_
            refine lv_aload_n hx hb dX4_missed_34 rfl (lv_at hl 0 rfl) ?_
            refine va_get (D := (dC, dI)) (ci := 4) (v := .ref a_o_dragEighths) (C := RX4) (T := TX4) (N := 16) hx hb hts hi4 hown hK hP 0 rfl rfl 13 (by decide) hq4 (fun _ h9 => h9) rfl dX4_missed_35 ?_
            refine lv_iload hx hb dX4_missed_38 (lv_at hl 3 rfl) ?_
            obtain ⟨h_7, hw⟩ := okC hw
            refine va_iald (i := v4) hx hb hK hP 2 0 rfl rfl h_7 dX4_missed_40 ?_
            refine lv_isub hx hb dX4_missed_41 ?_
            refine lv_i2l (v := (8 - (o_dragEighths v4.toNatClampNeg)).toInt64) hx hb dX4_missed_42 rfl ?_
            refine lv_goto (tgt := 49) hx hb dX4_missed_43 (by decide) ?_
            exact w49 v1 v4 ((8 - (o_dragEighths v4.toNatClampNeg)).toInt64) v2 _ _ hP hD hS _ (lv_sub hl [0, 1, 3] rfl) hw
  unfold f_X4_missed at hw
  have hP : va_P (dC, dI) vwCl (W_X4_missed cyI cyJ cyO h_o a_o_settings a_o_howFar a_o_tones a_o_currents a_o_warmths a_o_depths a_o_fars a_o_pieceCells a_o_pieceMonths a_o_pieceHighs a_o_pieceAges a_o_pieceNeeds a_o_dragCells a_o_dragEighths o_pieceCount o_dragCount o_dragCells o_dragEighths) s.heap := hP
  obtain ⟨H, hH⟩ : ∃ H, H = s.heap := ⟨_, rfl⟩
  obtain ⟨locs, hlo⟩ : ∃ x : List Loc, x = [] := ⟨_, rfl⟩
  have hP : va_P (dC, dI) vwCl (W_X4_missed cyI cyJ cyO h_o a_o_settings a_o_howFar a_o_tones a_o_currents a_o_warmths a_o_depths a_o_fars a_o_pieceCells a_o_pieceMonths a_o_pieceHighs a_o_pieceAges a_o_pieceNeeds a_o_dragCells a_o_dragEighths o_pieceCount o_dragCount o_dragCells o_dragEighths) H := by rw [hH]; exact hP
  have hS : va_S A s.heap H locs := by rw [hH, hlo]; exact hS
  refine kH hH hlo ?_
  clear hH hlo
  refine lv_lconst (v := 1) hx hb dX4_missed_0 (by decide) ?_
  refine lv_lstore_n (lv' := [(2, .long 1), (0, .ref h_o), (1, .int x1)]) hx hb dX4_missed_1 rfl hl (by decide) rfl (fun ls hl => ?_)
  refine lv_iconst (v := 0) hx hb dX4_missed_2 (by decide) ?_
  refine lv_istore (lv' := [(4, .int 0), (2, .long 1), (0, .ref h_o), (1, .int x1)]) hx hb dX4_missed_3 hl (by decide) rfl (fun ls hl => ?_)
  exact w5 FU x1 1 0 _ _ hP hD hS _ (lv_sub hl [2, 3, 1, 0] rfl) hw
/-! ===== X2_hold ===== -/
theorem dX2_hold_0 : decode cX2_hold 0 = .ok (.aload_n 0, 1) := by decide +kernel
theorem dX2_hold_1 : decode cX2_hold 1 = .ok (.iload_n 1, 1) := by decide +kernel
theorem dX2_hold_2 : decode cX2_hold 2 = .ok (.putfield 15, 3) := by decide +kernel
theorem dX2_hold_5 : decode cX2_hold 5 = .ok (.aload_n 0, 1) := by decide +kernel
theorem dX2_hold_6 : decode cX2_hold 6 = .ok (.iload_n 2, 1) := by decide +kernel
theorem dX2_hold_7 : decode cX2_hold 7 = .ok (.putfield 19, 3) := by decide +kernel
theorem dX2_hold_10 : decode cX2_hold 10 = .ok (.iconst 0, 1) := by decide +kernel
theorem dX2_hold_11 : decode cX2_hold 11 = .ok (.istore_n 3, 1) := by decide +kernel
theorem dX2_hold_12 : decode cX2_hold 12 = .ok (.iload_n 3, 1) := by decide +kernel
theorem dX2_hold_13 : decode cX2_hold 13 = .ok (.bipush 16, 2) := by decide +kernel
theorem dX2_hold_15 : decode cX2_hold 15 = .ok (.if_icmp .ge 16, 3) := by decide +kernel
theorem dX2_hold_18 : decode cX2_hold 18 = .ok (.aload_n 0, 1) := by decide +kernel
theorem dX2_hold_19 : decode cX2_hold 19 = .ok (.getfield 9, 3) := by decide +kernel
theorem dX2_hold_22 : decode cX2_hold 22 = .ok (.iload_n 3, 1) := by decide +kernel
theorem dX2_hold_23 : decode cX2_hold 23 = .ok (.iconst 0, 1) := by decide +kernel
theorem dX2_hold_24 : decode cX2_hold 24 = .ok (.iastore, 1) := by decide +kernel
theorem dX2_hold_25 : decode cX2_hold 25 = .ok (.iinc 3 1, 3) := by decide +kernel
theorem dX2_hold_28 : decode cX2_hold 28 = .ok (.goto (-16), 3) := by decide +kernel
theorem dX2_hold_31 : decode cX2_hold 31 = .ok (.return_, 1) := by decide +kernel
abbrev W_X2_hold (cyI cyJ cyO : ClassId) (h_o a_o_items : Nat) (o_lane : Int32) (o_size : Int32) (o_items : Nat → Int32) : va_W := [(h_o, .inr (2, [.ref a_o_items, .int o_lane, .int o_size])), (a_o_items, .inl (cyI, 16, .inl o_items))]
def f_X2_hold_L12b (k12 : Int32 → Int32 → Int32 → (Nat → Int32) → Option (Int32 × Int32 × (Nat → Int32))) (v3 : Int32) (o_lane : Int32) (o_size : Int32) (o_items : Nat → Int32) : Option (Int32 × Int32 × (Nat → Int32)) :=
  if 16 ≤ v3 then
    some (o_lane, o_size, o_items)
  else
    chk (¬ (v3 < 0 ∨ 16 ≤ v3.toNatClampNeg)) <|
    nm (v3 + 1) fun x_1 =>
    k12 x_1 o_lane o_size (upd o_items v3.toNatClampNeg 0)
def f_X2_hold_L12 : Nat → Int32 → Int32 → Int32 → (Nat → Int32) → Option (Int32 × Int32 × (Nat → Int32))
  | 0 => fun _ _ _ _ => none
  | n + 1 => f_X2_hold_L12b (f_X2_hold_L12 n)
def f_X2_hold (x1 : Int32) (x2 : Int32) (o_lane : Int32) (o_size : Int32) (o_items : Nat → Int32) : Option (Int32 × Int32 × (Nat → Int32)) :=
  f_X2_hold_L12 FU 0 x1 x2 o_items
abbrev rm_X2_hold : Room := { frames := 0, cells := 0, slots := 0, locals := 0 }
set_option maxRecDepth 100000 in
set_option maxHeartbeats 4000000 in
theorem c_X2_hold (l : Launch) (dC : Nat → ClassId) (dI : Nat → Nat → Nat) (cyI cyJ cyO : ClassId) (sz : Nat) (h_o a_o_items : Nat) (o_lane : Int32) (o_size : Int32) (o_items : Nat → Int32) (x1 : Int32) (x2 : Int32) (post : (Int32 × Int32 × (Nat → Int32)) → Prop) (hf : okP (f_X2_hold x1 x2 o_lane o_size o_items) post) : Cv l (dC, dI) (tyL cyI cyJ cyO) yX2_hold wsX2_hold rm_X2_hold [.ref h_o, .int x1, .int x2] sz (W_X2_hold cyI cyJ cyO h_o a_o_items o_lane o_size o_items) zN (fun u => post u) (fun u => (W_X2_hold cyI cyJ cyO h_o a_o_items u.1 u.2.1 u.2.2)) := by
  refine Met.ofW (cc := cX2_hold) (maxL := 4) (ret := none) (by decide) rfl ?_
  intro p e s m args below meth c s₁ B hml hv
  obtain ⟨rfl, hsz, hP, hK, hD0, hZ⟩ := hv
  have hx := B.exec
  have hb := B.bytes
  have hr := B.returns
  have hts := atoms_spec (ws := wsX2_hold) B.pre
  have hown : s.vm.findClass RX2 = some m.cls := findClass_of_methodNamed B.named
  have hlocks := B.notSynchronized
  subst hsz
  have hD := hD0.self (sz := s.heap.size)
  generalize hAe : va_A (W_X2_hold cyI cyJ cyO h_o a_o_items o_lane o_size o_items) s.heap.size = A at hD hZ ⊢
  have hA : ∀ q : Nat, s.heap.size ≤ q → A q := fun q h => by rw [← hAe]; exact Or.inr h
  clear hAe hD0
  have hS : va_S A s.heap s.heap [] := va_S.rf
  have hl := lv_entry ([.ref h_o, .int x1, .int x2]) (n := 4) (Nat.le_of_ble_eq_true rfl)
  rw [lg_entry_eq]
  generalize (lg_sl ([.ref h_o, .int x1, .int x2]) ++ List.replicate (4 - (lg_sl ([.ref h_o, .int x1, .int x2])).length) Slot.unset).toArray = ls at hl ⊢
  have hl : lv_has ls 4 [(0, .ref h_o), (1, .int x1), (2, .int x2)] := hl
  refine kW (fun Q hQ => ?_)
  have hq0 := hts _ (List.mem_cons_of_mem _ q_257)
  have hi2 : ∀ w ∈ u_ws RX2 TX2 3, w ∈ wsX2_hold := fun w h => List.mem_cons_of_mem _ (inX2 w h)
  have hq2 := hts _ (List.mem_cons_of_mem _ q_259)
  have hq3 := hts _ (List.mem_cons_of_mem _ q_261)
  have hw := hf
  have w12 : ∀ (n : Nat), ∀ (v3 : Int32) (o_lane : Int32) (o_size : Int32) (o_items : Nat → Int32) (H : Heap) (locs : List Loc), va_P (dC, dI) vwCl (W_X2_hold cyI cyJ cyO h_o a_o_items o_lane o_size o_items) H → va_D A (W_X2_hold cyI cyJ cyO h_o a_o_items o_lane o_size o_items) → va_S A s.heap H locs → ∀ (ls : Array Slot), lv_has ls 4 [(0, .ref h_o), (3, .int v3)] → okP (f_X2_hold_L12 n v3 o_lane o_size o_items) post → W p l e (headSpec wsX2_hold rm_X2_hold).room s m ([.ref h_o, .int x1, .int x2] : List Value).toArray below meth c H locs 0 0 Q (F0 m 12 ls []) := by
    intro n
    induction n with
    | zero =>
      intro v3 o_lane o_size o_items H locs hP hD hS ls hl hw
      exact (ok0 hw).elim
    | succ n12 ih12 =>
      intro v3 o_lane o_size o_items H locs hP hD hS ls hl hw
      replace hw : okP (f_X2_hold_L12b (f_X2_hold_L12 n12) v3 o_lane o_size o_items) post := hw
      unfold f_X2_hold_L12b at hw
      refine lv_iload_n hx hb dX2_hold_12 rfl (lv_at hl 1 rfl) ?_
      refine lv_bipush (v := 16) hx hb dX2_hold_13 (by decide) ?_
      refine lv_icmp_ge (tgt := 31) hx hb dX2_hold_15 (by decide) (fun c_1 => ?_) (fun c_1 => ?_)
      · replace hw := okT hw c_1
        clear c_1
        rw [hQ]
        exact W.vret hx hb hr (fun t ht hW => ⟨⟨(o_lane, o_size, o_items), rfl, okS hw, by rw [ht]; exact hP, va_K.moved hW.alike hK, hD⟩, hS.F ht⟩) hS.2.2 dX2_hold_31
      · replace hw := okF hw c_1
        clear c_1
        refine lv_aload_n hx hb dX2_hold_18 rfl (lv_at hl 0 rfl) ?_
        refine va_get (D := (dC, dI)) (ci := 2) (v := .ref a_o_items) (C := RX2) (T := TX2) (N := 3) hx hb hts hi2 hown hK hP 0 rfl rfl 0 (by decide) hq0 (fun _ h9 => h9) rfl dX2_hold_19 ?_
        refine lv_iload_n hx hb dX2_hold_22 rfl (lv_at hl 1 rfl) ?_
        refine lv_iconst (v := 0) hx hb dX2_hold_23 (by decide) ?_
        obtain ⟨h_2, hw⟩ := okC hw
        refine va_iast (i := v3) (x := 0) hx hb hK hP hD hS 1 0 rfl rfl h_2 dX2_hold_24 (fun H locs hP hD hS => ?_)
        have hP : va_P (dC, dI) vwCl (W_X2_hold cyI cyJ cyO h_o a_o_items o_lane o_size (upd o_items v3.toNatClampNeg 0)) H := hP
        have hD : va_D A (W_X2_hold cyI cyJ cyO h_o a_o_items o_lane o_size (upd o_items v3.toNatClampNeg 0)) := hD
        obtain ⟨x_3, ex_3⟩ : ∃ y : Int32, y = v3 + 1 := ⟨_, rfl⟩
        replace hw := okN ex_3 hw
        refine lv_iinc (v := x_3) (lv' := [(3, .int x_3), (0, .ref h_o)]) hx hb dX2_hold_25 hl (k := 1) rfl (by rw [ex_3]; rfl) (by decide) rfl (fun ls hl => ?_)
        clear ex_3
        refine lv_goto (tgt := 12) hx hb dX2_hold_28 (by decide) ?_
        exact ih12 x_3 o_lane o_size (upd o_items v3.toNatClampNeg 0) _ _ hP hD hS _ (lv_sub hl [1, 0] rfl) hw
  unfold f_X2_hold at hw
  have hP : va_P (dC, dI) vwCl (W_X2_hold cyI cyJ cyO h_o a_o_items o_lane o_size o_items) s.heap := hP
  obtain ⟨H, hH⟩ : ∃ H, H = s.heap := ⟨_, rfl⟩
  obtain ⟨locs, hlo⟩ : ∃ x : List Loc, x = [] := ⟨_, rfl⟩
  have hP : va_P (dC, dI) vwCl (W_X2_hold cyI cyJ cyO h_o a_o_items o_lane o_size o_items) H := by rw [hH]; exact hP
  have hS : va_S A s.heap H locs := by rw [hH, hlo]; exact hS
  refine kH hH hlo ?_
  clear hH hlo
  refine lv_aload_n hx hb dX2_hold_0 rfl (lv_at hl 0 rfl) ?_
  refine lv_iload_n hx hb dX2_hold_1 rfl (lv_at hl 1 rfl) ?_
  refine va_put (D := (dC, dI)) (ci := 2) (v := .int x1) (ty := .int) (C := RX2) (T := TX2) (N := 3) hx hb hts hi2 tyX2 tyX2_ok nmX2 hown hK hP hD hS 0 rfl rfl 1 (by decide) hq2 (fun _ h9 => h9) rfl (by decide +kernel) rfl rfl (Nat.le_of_ble_eq_true rfl) dX2_hold_2 (fun H locs hP hD hS => ?_)
  have hP : va_P (dC, dI) vwCl (W_X2_hold cyI cyJ cyO h_o a_o_items x1 o_size o_items) H := hP
  have hD : va_D A (W_X2_hold cyI cyJ cyO h_o a_o_items x1 o_size o_items) := hD
  refine lv_aload_n hx hb dX2_hold_5 rfl (lv_at hl 0 rfl) ?_
  refine lv_iload_n hx hb dX2_hold_6 rfl (lv_at hl 2 rfl) ?_
  refine va_put (D := (dC, dI)) (ci := 2) (v := .int x2) (ty := .int) (C := RX2) (T := TX2) (N := 3) hx hb hts hi2 tyX2 tyX2_ok nmX2 hown hK hP hD hS 0 rfl rfl 2 (by decide) hq3 (fun _ h9 => h9) rfl (by decide +kernel) rfl rfl (Nat.le_of_ble_eq_true rfl) dX2_hold_7 (fun H locs hP hD hS => ?_)
  have hP : va_P (dC, dI) vwCl (W_X2_hold cyI cyJ cyO h_o a_o_items x1 x2 o_items) H := hP
  have hD : va_D A (W_X2_hold cyI cyJ cyO h_o a_o_items x1 x2 o_items) := hD
  refine lv_iconst (v := 0) hx hb dX2_hold_10 (by decide) ?_
  refine lv_istore_n (lv' := [(3, .int 0), (0, .ref h_o), (1, .int x1), (2, .int x2)]) hx hb dX2_hold_11 rfl hl (by decide) rfl (fun ls hl => ?_)
  exact w12 FU 0 x1 x2 o_items _ _ hP hD hS _ (lv_sub hl [1, 0] rfl) hw
/-! ===== X2_holdNothing ===== -/
theorem dX2_holdNothing_0 : decode cX2_holdNothing 0 = .ok (.aload_n 0, 1) := by decide +kernel
theorem dX2_holdNothing_1 : decode cX2_holdNothing 1 = .ok (.iconst (-1), 1) := by decide +kernel
theorem dX2_holdNothing_2 : decode cX2_holdNothing 2 = .ok (.putfield 15, 3) := by decide +kernel
theorem dX2_holdNothing_5 : decode cX2_holdNothing 5 = .ok (.aload_n 0, 1) := by decide +kernel
theorem dX2_holdNothing_6 : decode cX2_holdNothing 6 = .ok (.iconst 0, 1) := by decide +kernel
theorem dX2_holdNothing_7 : decode cX2_holdNothing 7 = .ok (.putfield 19, 3) := by decide +kernel
theorem dX2_holdNothing_10 : decode cX2_holdNothing 10 = .ok (.return_, 1) := by decide +kernel
abbrev W_X2_holdNothing (cyI cyJ cyO : ClassId) (h_o a_o_items : Nat) (o_lane : Int32) (o_size : Int32) : va_W := [(h_o, .inr (2, [.ref a_o_items, .int o_lane, .int o_size]))]
def f_X2_holdNothing (o_lane : Int32) (o_size : Int32) : Option (Int32 × Int32) :=
  some ((-1), 0)
abbrev rm_X2_holdNothing : Room := { frames := 0, cells := 0, slots := 0, locals := 0 }
set_option maxRecDepth 100000 in
set_option maxHeartbeats 4000000 in
theorem c_X2_holdNothing (l : Launch) (dC : Nat → ClassId) (dI : Nat → Nat → Nat) (cyI cyJ cyO : ClassId) (sz : Nat) (h_o a_o_items : Nat) (o_lane : Int32) (o_size : Int32) (post : (Int32 × Int32) → Prop) (hf : okP (f_X2_holdNothing o_lane o_size) post) : Cv l (dC, dI) (tyL cyI cyJ cyO) yX2_holdNothing wsX2_holdNothing rm_X2_holdNothing [.ref h_o] sz (W_X2_holdNothing cyI cyJ cyO h_o a_o_items o_lane o_size) zN (fun u => post u) (fun u => (W_X2_holdNothing cyI cyJ cyO h_o a_o_items u.1 u.2)) := by
  refine Met.ofW (cc := cX2_holdNothing) (maxL := 1) (ret := none) (by decide) rfl ?_
  intro p e s m args below meth c s₁ B hml hv
  obtain ⟨rfl, hsz, hP, hK, hD0, hZ⟩ := hv
  have hx := B.exec
  have hb := B.bytes
  have hr := B.returns
  have hts := atoms_spec (ws := wsX2_holdNothing) B.pre
  have hown : s.vm.findClass RX2 = some m.cls := findClass_of_methodNamed B.named
  have hlocks := B.notSynchronized
  subst hsz
  have hD := hD0.self (sz := s.heap.size)
  generalize hAe : va_A (W_X2_holdNothing cyI cyJ cyO h_o a_o_items o_lane o_size) s.heap.size = A at hD hZ ⊢
  have hA : ∀ q : Nat, s.heap.size ≤ q → A q := fun q h => by rw [← hAe]; exact Or.inr h
  clear hAe hD0
  have hS : va_S A s.heap s.heap [] := va_S.rf
  have hl := lv_entry ([.ref h_o]) (n := 1) (Nat.le_of_ble_eq_true rfl)
  rw [lg_entry_eq]
  generalize (lg_sl ([.ref h_o]) ++ List.replicate (1 - (lg_sl ([.ref h_o])).length) Slot.unset).toArray = ls at hl ⊢
  have hl : lv_has ls 1 [(0, .ref h_o)] := hl
  refine kW (fun Q hQ => ?_)
  have hq0 := hts _ (List.mem_cons_of_mem _ q_259)
  have hi2 : ∀ w ∈ u_ws RX2 TX2 3, w ∈ wsX2_holdNothing := fun w h => List.mem_cons_of_mem _ (inX2 w h)
  have hq2 := hts _ (List.mem_cons_of_mem _ q_261)
  have hw := hf
  unfold f_X2_holdNothing at hw
  have hP : va_P (dC, dI) vwCl (W_X2_holdNothing cyI cyJ cyO h_o a_o_items o_lane o_size) s.heap := hP
  obtain ⟨H, hH⟩ : ∃ H, H = s.heap := ⟨_, rfl⟩
  obtain ⟨locs, hlo⟩ : ∃ x : List Loc, x = [] := ⟨_, rfl⟩
  have hP : va_P (dC, dI) vwCl (W_X2_holdNothing cyI cyJ cyO h_o a_o_items o_lane o_size) H := by rw [hH]; exact hP
  have hS : va_S A s.heap H locs := by rw [hH, hlo]; exact hS
  refine kH hH hlo ?_
  clear hH hlo
  refine lv_aload_n hx hb dX2_holdNothing_0 rfl (lv_at hl 0 rfl) ?_
  refine lv_iconst (v := (-1)) hx hb dX2_holdNothing_1 (by decide) ?_
  refine va_put (D := (dC, dI)) (ci := 2) (v := .int (-1)) (ty := .int) (C := RX2) (T := TX2) (N := 3) hx hb hts hi2 tyX2 tyX2_ok nmX2 hown hK hP hD hS 0 rfl rfl 1 (by decide) hq0 (fun _ h9 => h9) rfl (by decide +kernel) rfl rfl (Nat.le_of_ble_eq_true rfl) dX2_holdNothing_2 (fun H locs hP hD hS => ?_)
  have hP : va_P (dC, dI) vwCl (W_X2_holdNothing cyI cyJ cyO h_o a_o_items (-1) o_size) H := hP
  have hD : va_D A (W_X2_holdNothing cyI cyJ cyO h_o a_o_items (-1) o_size) := hD
  refine lv_aload_n hx hb dX2_holdNothing_5 rfl (lv_at hl 0 rfl) ?_
  refine lv_iconst (v := 0) hx hb dX2_holdNothing_6 (by decide) ?_
  refine va_put (D := (dC, dI)) (ci := 2) (v := .int 0) (ty := .int) (C := RX2) (T := TX2) (N := 3) hx hb hts hi2 tyX2 tyX2_ok nmX2 hown hK hP hD hS 0 rfl rfl 2 (by decide) hq2 (fun _ h9 => h9) rfl (by decide +kernel) rfl rfl (Nat.le_of_ble_eq_true rfl) dX2_holdNothing_7 (fun H locs hP hD hS => ?_)
  have hP : va_P (dC, dI) vwCl (W_X2_holdNothing cyI cyJ cyO h_o a_o_items (-1) 0) H := hP
  have hD : va_D A (W_X2_holdNothing cyI cyJ cyO h_o a_o_items (-1) 0) := hD
  rw [hQ]
  exact W.vret hx hb hr (fun t ht hW => ⟨⟨((-1), 0), rfl, okS hw, by rw [ht]; exact hP, va_K.moved hW.alike hK, hD⟩, hS.F ht⟩) hS.2.2 dX2_holdNothing_10
/-! ===== X2_isNothing ===== -/
theorem dX2_isNothing_0 : decode cX2_isNothing 0 = .ok (.aload_n 0, 1) := by decide +kernel
theorem dX2_isNothing_1 : decode cX2_isNothing 1 = .ok (.getfield 15, 3) := by decide +kernel
theorem dX2_isNothing_4 : decode cX2_isNothing 4 = .ok (.iconst (-1), 1) := by decide +kernel
theorem dX2_isNothing_5 : decode cX2_isNothing 5 = .ok (.if_icmp .ne 7, 3) := by decide +kernel
theorem dX2_isNothing_8 : decode cX2_isNothing 8 = .ok (.iconst 1, 1) := by decide +kernel
theorem dX2_isNothing_9 : decode cX2_isNothing 9 = .ok (.goto 4, 3) := by decide +kernel
theorem dX2_isNothing_12 : decode cX2_isNothing 12 = .ok (.iconst 0, 1) := by decide +kernel
theorem dX2_isNothing_13 : decode cX2_isNothing 13 = .ok (.ireturn, 1) := by decide +kernel
abbrev W_X2_isNothing (cyI cyJ cyO : ClassId) (h_o a_o_items : Nat) (o_lane : Int32) (o_size : Int32) : va_W := [(h_o, .inr (2, [.ref a_o_items, .int o_lane, .int o_size]))]
def f_X2_isNothing (o_lane : Int32) : Option (Int32) :=
  if o_lane = (-1) then
    some 1
  else
    some 0
abbrev rm_X2_isNothing : Room := { frames := 0, cells := 0, slots := 0, locals := 0 }
set_option maxRecDepth 100000 in
set_option maxHeartbeats 4000000 in
theorem c_X2_isNothing (l : Launch) (dC : Nat → ClassId) (dI : Nat → Nat → Nat) (cyI cyJ cyO : ClassId) (sz : Nat) (h_o a_o_items : Nat) (o_lane : Int32) (o_size : Int32) (post : Int32 → Prop) (hf : okP (f_X2_isNothing o_lane) post) : Ci l (dC, dI) (tyL cyI cyJ cyO) yX2_isNothing wsX2_isNothing rm_X2_isNothing [.ref h_o] sz (W_X2_isNothing cyI cyJ cyO h_o a_o_items o_lane o_size) zN (fun r (_ : Unit) => post r) (fun _ => (W_X2_isNothing cyI cyJ cyO h_o a_o_items o_lane o_size)) := by
  refine Met.ofW (cc := cX2_isNothing) (maxL := 1) (ret := (some .boolean)) (by decide) rfl ?_
  intro p e s m args below meth c s₁ B hml hv
  obtain ⟨rfl, hsz, hP, hK, hD0, hZ⟩ := hv
  have hx := B.exec
  have hb := B.bytes
  have hr := B.returns
  have hts := atoms_spec (ws := wsX2_isNothing) B.pre
  have hown : s.vm.findClass RX2 = some m.cls := findClass_of_methodNamed B.named
  have hlocks := B.notSynchronized
  subst hsz
  have hD := hD0.self (sz := s.heap.size)
  generalize hAe : va_A (W_X2_isNothing cyI cyJ cyO h_o a_o_items o_lane o_size) s.heap.size = A at hD hZ ⊢
  have hA : ∀ q : Nat, s.heap.size ≤ q → A q := fun q h => by rw [← hAe]; exact Or.inr h
  clear hAe hD0
  have hS : va_S A s.heap s.heap [] := va_S.rf
  have hl := lv_entry ([.ref h_o]) (n := 1) (Nat.le_of_ble_eq_true rfl)
  rw [lg_entry_eq]
  generalize (lg_sl ([.ref h_o]) ++ List.replicate (1 - (lg_sl ([.ref h_o])).length) Slot.unset).toArray = ls at hl ⊢
  have hl : lv_has ls 1 [(0, .ref h_o)] := hl
  refine kW (fun Q hQ => ?_)
  have hq0 := hts _ (List.mem_cons_of_mem _ q_259)
  have hi2 : ∀ w ∈ u_ws RX2 TX2 3, w ∈ wsX2_isNothing := fun w h => List.mem_cons_of_mem _ (inX2 w h)
  have hw := hf
  unfold f_X2_isNothing at hw
  have hP : va_P (dC, dI) vwCl (W_X2_isNothing cyI cyJ cyO h_o a_o_items o_lane o_size) s.heap := hP
  obtain ⟨H, hH⟩ : ∃ H, H = s.heap := ⟨_, rfl⟩
  obtain ⟨locs, hlo⟩ : ∃ x : List Loc, x = [] := ⟨_, rfl⟩
  have hP : va_P (dC, dI) vwCl (W_X2_isNothing cyI cyJ cyO h_o a_o_items o_lane o_size) H := by rw [hH]; exact hP
  have hS : va_S A s.heap H locs := by rw [hH, hlo]; exact hS
  refine kH hH hlo ?_
  clear hH hlo
  refine lv_aload_n hx hb dX2_isNothing_0 rfl (lv_at hl 0 rfl) ?_
  refine va_get (D := (dC, dI)) (ci := 2) (v := .int o_lane) (C := RX2) (T := TX2) (N := 3) hx hb hts hi2 hown hK hP 0 rfl rfl 1 (by decide) hq0 (fun _ h9 => h9) rfl dX2_isNothing_1 ?_
  refine lv_iconst (v := (-1)) hx hb dX2_isNothing_4 (by decide) ?_
  refine lv_icmp_ne (tgt := 12) hx hb dX2_isNothing_5 (by decide) (fun c_1 => ?_) (fun c_1 => ?_)
  · replace hw := okF hw c_1
    clear c_1
    refine lv_iconst (v := 0) hx hb dX2_isNothing_12 (by decide) ?_
    rw [hQ]
    exact W.zret (v := 0) hx hb hr (by decide) (fun t ht hW => ⟨⟨0, (), rfl, okS hw, by rw [ht]; exact hP, va_K.moved hW.alike hK, hD⟩, hS.F ht⟩) hS.2.2 dX2_isNothing_13
  · replace hw := okT hw c_1
    clear c_1
    refine lv_iconst (v := 1) hx hb dX2_isNothing_8 (by decide) ?_
    refine lv_goto (tgt := 13) hx hb dX2_isNothing_9 (by decide) ?_
    rw [hQ]
    exact W.zret (v := 1) hx hb hr (by decide) (fun t ht hW => ⟨⟨1, (), rfl, okS hw, by rw [ht]; exact hP, va_K.moved hW.alike hK, hD⟩, hS.F ht⟩) hS.2.2 dX2_isNothing_13
/-! ===== X2_has ===== -/
theorem dX2_has_0 : decode cX2_has 0 = .ok (.iload_n 1, 1) := by decide +kernel
theorem dX2_has_1 : decode cX2_has 1 = .ok (.ifCond .lt 29, 3) := by decide +kernel
theorem dX2_has_4 : decode cX2_has 4 = .ok (.iload_n 2, 1) := by decide +kernel
theorem dX2_has_5 : decode cX2_has 5 = .ok (.ifCond .lt 25, 3) := by decide +kernel
theorem dX2_has_8 : decode cX2_has 8 = .ok (.iload_n 2, 1) := by decide +kernel
theorem dX2_has_9 : decode cX2_has 9 = .ok (.aload_n 0, 1) := by decide +kernel
theorem dX2_has_10 : decode cX2_has 10 = .ok (.getfield 19, 3) := by decide +kernel
theorem dX2_has_13 : decode cX2_has 13 = .ok (.if_icmp .gt 17, 3) := by decide +kernel
theorem dX2_has_16 : decode cX2_has 16 = .ok (.iload_n 1, 1) := by decide +kernel
theorem dX2_has_17 : decode cX2_has 17 = .ok (.aload_n 0, 1) := by decide +kernel
theorem dX2_has_18 : decode cX2_has 18 = .ok (.getfield 19, 3) := by decide +kernel
theorem dX2_has_21 : decode cX2_has 21 = .ok (.iload_n 2, 1) := by decide +kernel
theorem dX2_has_22 : decode cX2_has 22 = .ok (.isub, 1) := by decide +kernel
theorem dX2_has_23 : decode cX2_has 23 = .ok (.if_icmp .gt 7, 3) := by decide +kernel
theorem dX2_has_26 : decode cX2_has 26 = .ok (.iconst 1, 1) := by decide +kernel
theorem dX2_has_27 : decode cX2_has 27 = .ok (.goto 4, 3) := by decide +kernel
theorem dX2_has_30 : decode cX2_has 30 = .ok (.iconst 0, 1) := by decide +kernel
theorem dX2_has_31 : decode cX2_has 31 = .ok (.ireturn, 1) := by decide +kernel
abbrev W_X2_has (cyI cyJ cyO : ClassId) (h_o a_o_items : Nat) (o_lane : Int32) (o_size : Int32) : va_W := [(h_o, .inr (2, [.ref a_o_items, .int o_lane, .int o_size]))]
def f_X2_has (x1 : Int32) (x2 : Int32) (o_size : Int32) : Option (Int32) :=
  if x1 < 0 then
    some 0
  else
    if x2 < 0 then
      some 0
    else
      if o_size < x2 then
        some 0
      else
        if (o_size - x2) < x1 then
          some 0
        else
          some 1
abbrev rm_X2_has : Room := { frames := 0, cells := 0, slots := 0, locals := 0 }
set_option maxRecDepth 100000 in
set_option maxHeartbeats 4000000 in
theorem c_X2_has (l : Launch) (dC : Nat → ClassId) (dI : Nat → Nat → Nat) (cyI cyJ cyO : ClassId) (sz : Nat) (h_o a_o_items : Nat) (o_lane : Int32) (o_size : Int32) (x1 : Int32) (x2 : Int32) (post : Int32 → Prop) (hf : okP (f_X2_has x1 x2 o_size) post) : Ci l (dC, dI) (tyL cyI cyJ cyO) yX2_has wsX2_has rm_X2_has [.ref h_o, .int x1, .int x2] sz (W_X2_has cyI cyJ cyO h_o a_o_items o_lane o_size) zN (fun r (_ : Unit) => post r) (fun _ => (W_X2_has cyI cyJ cyO h_o a_o_items o_lane o_size)) := by
  refine Met.ofW (cc := cX2_has) (maxL := 3) (ret := (some .boolean)) (by decide) rfl ?_
  intro p e s m args below meth c s₁ B hml hv
  obtain ⟨rfl, hsz, hP, hK, hD0, hZ⟩ := hv
  have hx := B.exec
  have hb := B.bytes
  have hr := B.returns
  have hts := atoms_spec (ws := wsX2_has) B.pre
  have hown : s.vm.findClass RX2 = some m.cls := findClass_of_methodNamed B.named
  have hlocks := B.notSynchronized
  subst hsz
  have hD := hD0.self (sz := s.heap.size)
  generalize hAe : va_A (W_X2_has cyI cyJ cyO h_o a_o_items o_lane o_size) s.heap.size = A at hD hZ ⊢
  have hA : ∀ q : Nat, s.heap.size ≤ q → A q := fun q h => by rw [← hAe]; exact Or.inr h
  clear hAe hD0
  have hS : va_S A s.heap s.heap [] := va_S.rf
  have hl := lv_entry ([.ref h_o, .int x1, .int x2]) (n := 3) (Nat.le_of_ble_eq_true rfl)
  rw [lg_entry_eq]
  generalize (lg_sl ([.ref h_o, .int x1, .int x2]) ++ List.replicate (3 - (lg_sl ([.ref h_o, .int x1, .int x2])).length) Slot.unset).toArray = ls at hl ⊢
  have hl : lv_has ls 3 [(0, .ref h_o), (1, .int x1), (2, .int x2)] := hl
  refine kW (fun Q hQ => ?_)
  have hq0 := hts _ (List.mem_cons_of_mem _ q_261)
  have hi2 : ∀ w ∈ u_ws RX2 TX2 3, w ∈ wsX2_has := fun w h => List.mem_cons_of_mem _ (inX2 w h)
  have hw := hf
  unfold f_X2_has at hw
  have hP : va_P (dC, dI) vwCl (W_X2_has cyI cyJ cyO h_o a_o_items o_lane o_size) s.heap := hP
  obtain ⟨H, hH⟩ : ∃ H, H = s.heap := ⟨_, rfl⟩
  obtain ⟨locs, hlo⟩ : ∃ x : List Loc, x = [] := ⟨_, rfl⟩
  have hP : va_P (dC, dI) vwCl (W_X2_has cyI cyJ cyO h_o a_o_items o_lane o_size) H := by rw [hH]; exact hP
  have hS : va_S A s.heap H locs := by rw [hH, hlo]; exact hS
  refine kH hH hlo ?_
  clear hH hlo
  refine lv_iload_n hx hb dX2_has_0 rfl (lv_at hl 1 rfl) ?_
  refine lv_if_lt (tgt := 30) hx hb dX2_has_1 (by decide) (fun c_1 => ?_) (fun c_1 => ?_)
  · replace hw := okT hw c_1
    clear c_1
    refine lv_iconst (v := 0) hx hb dX2_has_30 (by decide) ?_
    rw [hQ]
    exact W.zret (v := 0) hx hb hr (by decide) (fun t ht hW => ⟨⟨0, (), rfl, okS hw, by rw [ht]; exact hP, va_K.moved hW.alike hK, hD⟩, hS.F ht⟩) hS.2.2 dX2_has_31
  · replace hw := okF hw c_1
    clear c_1
    refine lv_iload_n hx hb dX2_has_4 rfl (lv_at hl 2 rfl) ?_
    refine lv_if_lt (tgt := 30) hx hb dX2_has_5 (by decide) (fun c_2 => ?_) (fun c_2 => ?_)
    · replace hw := okT hw c_2
      clear c_2
      refine lv_iconst (v := 0) hx hb dX2_has_30 (by decide) ?_
      rw [hQ]
      exact W.zret (v := 0) hx hb hr (by decide) (fun t ht hW => ⟨⟨0, (), rfl, okS hw, by rw [ht]; exact hP, va_K.moved hW.alike hK, hD⟩, hS.F ht⟩) hS.2.2 dX2_has_31
    · replace hw := okF hw c_2
      clear c_2
      refine lv_iload_n hx hb dX2_has_8 rfl (lv_at hl 2 rfl) ?_
      refine lv_aload_n hx hb dX2_has_9 rfl (lv_at hl 0 rfl) ?_
      refine va_get (D := (dC, dI)) (ci := 2) (v := .int o_size) (C := RX2) (T := TX2) (N := 3) hx hb hts hi2 hown hK hP 0 rfl rfl 2 (by decide) hq0 (fun _ h9 => h9) rfl dX2_has_10 ?_
      refine lv_icmp_gt (tgt := 30) hx hb dX2_has_13 (by decide) (fun c_3 => ?_) (fun c_3 => ?_)
      · replace hw := okT hw c_3
        clear c_3
        refine lv_iconst (v := 0) hx hb dX2_has_30 (by decide) ?_
        rw [hQ]
        exact W.zret (v := 0) hx hb hr (by decide) (fun t ht hW => ⟨⟨0, (), rfl, okS hw, by rw [ht]; exact hP, va_K.moved hW.alike hK, hD⟩, hS.F ht⟩) hS.2.2 dX2_has_31
      · replace hw := okF hw c_3
        clear c_3
        refine lv_iload_n hx hb dX2_has_16 rfl (lv_at hl 1 rfl) ?_
        refine lv_aload_n hx hb dX2_has_17 rfl (lv_at hl 0 rfl) ?_
        refine va_get (D := (dC, dI)) (ci := 2) (v := .int o_size) (C := RX2) (T := TX2) (N := 3) hx hb hts hi2 hown hK hP 0 rfl rfl 2 (by decide) hq0 (fun _ h9 => h9) rfl dX2_has_18 ?_
        refine lv_iload_n hx hb dX2_has_21 rfl (lv_at hl 2 rfl) ?_
        refine lv_isub hx hb dX2_has_22 ?_
        refine lv_icmp_gt (tgt := 30) hx hb dX2_has_23 (by decide) (fun c_4 => ?_) (fun c_4 => ?_)
        · replace hw := okT hw c_4
          clear c_4
          refine lv_iconst (v := 0) hx hb dX2_has_30 (by decide) ?_
          rw [hQ]
          exact W.zret (v := 0) hx hb hr (by decide) (fun t ht hW => ⟨⟨0, (), rfl, okS hw, by rw [ht]; exact hP, va_K.moved hW.alike hK, hD⟩, hS.F ht⟩) hS.2.2 dX2_has_31
        · replace hw := okF hw c_4
          clear c_4
          refine lv_iconst (v := 1) hx hb dX2_has_26 (by decide) ?_
          refine lv_goto (tgt := 31) hx hb dX2_has_27 (by decide) ?_
          rw [hQ]
          exact W.zret (v := 1) hx hb hr (by decide) (fun t ht hW => ⟨⟨1, (), rfl, okS hw, by rw [ht]; exact hP, va_K.moved hW.alike hK, hD⟩, hS.F ht⟩) hS.2.2 dX2_has_31
/-! ===== X2_put ===== -/
theorem dX2_put_0 : decode cX2_put 0 = .ok (.aload_n 0, 1) := by decide +kernel
theorem dX2_put_1 : decode cX2_put 1 = .ok (.iload_n 1, 1) := by decide +kernel
theorem dX2_put_2 : decode cX2_put 2 = .ok (.iconst 1, 1) := by decide +kernel
theorem dX2_put_3 : decode cX2_put 3 = .ok (.invokevirtual 22, 3) := by decide +kernel
theorem dX2_put_6 : decode cX2_put 6 = .ok (.ifCond .eq 35, 3) := by decide +kernel
theorem dX2_put_9 : decode cX2_put 9 = .ok (.aload_n 0, 1) := by decide +kernel
theorem dX2_put_10 : decode cX2_put 10 = .ok (.getfield 9, 3) := by decide +kernel
theorem dX2_put_13 : decode cX2_put 13 = .ok (.iload_n 1, 1) := by decide +kernel
theorem dX2_put_14 : decode cX2_put 14 = .ok (.aload_n 0, 1) := by decide +kernel
theorem dX2_put_15 : decode cX2_put 15 = .ok (.getfield 15, 3) := by decide +kernel
theorem dX2_put_18 : decode cX2_put 18 = .ok (.ifCond .ne 8, 3) := by decide +kernel
theorem dX2_put_21 : decode cX2_put 21 = .ok (.iload_n 2, 1) := by decide +kernel
theorem dX2_put_22 : decode cX2_put 22 = .ok (.i2b, 1) := by decide +kernel
theorem dX2_put_23 : decode cX2_put 23 = .ok (.goto 17, 3) := by decide +kernel
theorem dX2_put_26 : decode cX2_put 26 = .ok (.aload_n 0, 1) := by decide +kernel
theorem dX2_put_27 : decode cX2_put 27 = .ok (.getfield 15, 3) := by decide +kernel
theorem dX2_put_30 : decode cX2_put 30 = .ok (.iconst 1, 1) := by decide +kernel
theorem dX2_put_31 : decode cX2_put 31 = .ok (.if_icmp .ne 8, 3) := by decide +kernel
theorem dX2_put_34 : decode cX2_put 34 = .ok (.iload_n 2, 1) := by decide +kernel
theorem dX2_put_35 : decode cX2_put 35 = .ok (.i2s, 1) := by decide +kernel
theorem dX2_put_36 : decode cX2_put 36 = .ok (.goto 4, 3) := by decide +kernel
theorem dX2_put_39 : decode cX2_put 39 = .ok (.iload_n 2, 1) := by decide +kernel
theorem dX2_put_40 : decode cX2_put 40 = .ok (.iastore, 1) := by decide +kernel
theorem dX2_put_41 : decode cX2_put 41 = .ok (.return_, 1) := by decide +kernel
abbrev W_X2_put (cyI cyJ cyO : ClassId) (h_o a_o_items : Nat) (o_lane : Int32) (o_size : Int32) (o_items : Nat → Int32) : va_W := [(h_o, .inr (2, [.ref a_o_items, .int o_lane, .int o_size])), (a_o_items, .inl (cyI, 16, .inl o_items))]
def f_X2_put_B40 (y0 : Int32) (y1 : Int32) (o_lane : Int32) (o_size : Int32) (o_items : Nat → Int32) : Option ((Nat → Int32)) :=
  chk (¬ (y1 < 0 ∨ 16 ≤ y1.toNatClampNeg)) <|
  some (upd o_items y1.toNatClampNeg y0)
def f_X2_put (x1 : Int32) (x2 : Int32) (o_lane : Int32) (o_size : Int32) (o_items : Nat → Int32) : Option ((Nat → Int32)) :=
  bd1 (f_X2_has x1 1 o_size) fun r_1 =>
  if r_1 = 0 then
    some o_items
  else
    if o_lane = 0 then
      f_X2_put_B40 x2.toInt8.toInt32 x1 o_lane o_size o_items
    else
      if o_lane = 1 then
        f_X2_put_B40 x2.toInt16.toInt32 x1 o_lane o_size o_items
      else
        f_X2_put_B40 x2 x1 o_lane o_size o_items
abbrev rm_X2_put : Room := { frames := 1, cells := 0, slots := 0, locals := 22 }
set_option maxRecDepth 100000 in
set_option maxHeartbeats 4000000 in
theorem c_X2_put (l : Launch) (dC : Nat → ClassId) (dI : Nat → Nat → Nat) (cyI cyJ cyO : ClassId) (sz : Nat) (h_o a_o_items : Nat) (o_lane : Int32) (o_size : Int32) (o_items : Nat → Int32) (x1 : Int32) (x2 : Int32) (post : ((Nat → Int32)) → Prop) (hf : okP (f_X2_put x1 x2 o_lane o_size o_items) post) : Cv l (dC, dI) (tyL cyI cyJ cyO) yX2_put wsX2_put rm_X2_put [.ref h_o, .int x1, .int x2] sz (W_X2_put cyI cyJ cyO h_o a_o_items o_lane o_size o_items) zN (fun u => post u) (fun u => (W_X2_put cyI cyJ cyO h_o a_o_items o_lane o_size u)) := by
  refine Met.ofW (cc := cX2_put) (maxL := 3) (ret := none) (by decide) rfl ?_
  intro p e s m args below meth c s₁ B hml hv
  obtain ⟨rfl, hsz, hP, hK, hD0, hZ⟩ := hv
  have hx := B.exec
  have hb := B.bytes
  have hr := B.returns
  have hts := atoms_spec (ws := wsX2_put) B.pre
  have hown : s.vm.findClass RX2 = some m.cls := findClass_of_methodNamed B.named
  have hlocks := B.notSynchronized
  subst hsz
  have hD := hD0.self (sz := s.heap.size)
  generalize hAe : va_A (W_X2_put cyI cyJ cyO h_o a_o_items o_lane o_size o_items) s.heap.size = A at hD hZ ⊢
  have hA : ∀ q : Nat, s.heap.size ≤ q → A q := fun q h => by rw [← hAe]; exact Or.inr h
  clear hAe hD0
  have hS : va_S A s.heap s.heap [] := va_S.rf
  have hl := lv_entry ([.ref h_o, .int x1, .int x2]) (n := 3) (Nat.le_of_ble_eq_true rfl)
  rw [lg_entry_eq]
  generalize (lg_sl ([.ref h_o, .int x1, .int x2]) ++ List.replicate (3 - (lg_sl ([.ref h_o, .int x1, .int x2])).length) Slot.unset).toArray = ls at hl ⊢
  have hl : lv_has ls 3 [(0, .ref h_o), (1, .int x1), (2, .int x2)] := hl
  refine kW (fun Q hQ => ?_)
  have hq0 := hts _ (List.mem_cons_of_mem _ q_257)
  have hi2 : ∀ w ∈ u_ws RX2 TX2 3, w ∈ wsX2_put := fun w h => List.mem_cons_of_mem _ (inX2 w h)
  have hq2 := hts _ (List.mem_cons_of_mem _ q_259)
  have hw := hf
  have w40 : ∀ (y0 : Int32) (y1 : Int32) (o_items : Nat → Int32) (H : Heap) (locs : List Loc), va_P (dC, dI) vwCl (W_X2_put cyI cyJ cyO h_o a_o_items o_lane o_size o_items) H → va_D A (W_X2_put cyI cyJ cyO h_o a_o_items o_lane o_size o_items) → va_S A s.heap H locs → ∀ (ls : Array Slot), lv_has ls 3 [] → okP (f_X2_put_B40 y0 y1 o_lane o_size o_items) post → W p l e (headSpec wsX2_put rm_X2_put).room s m ([.ref h_o, .int x1, .int x2] : List Value).toArray below meth c H locs 0 0 Q (F0 m 40 ls [.int y0, .int y1, .ref a_o_items]) := by
    intro y0 y1 o_items H locs hP hD hS ls hl hw
    unfold f_X2_put_B40 at hw
    obtain ⟨h_1, hw⟩ := okC hw
    refine va_iast (i := y1) (x := y0) hx hb hK hP hD hS 1 0 rfl rfl h_1 dX2_put_40 (fun H locs hP hD hS => ?_)
    have hP : va_P (dC, dI) vwCl (W_X2_put cyI cyJ cyO h_o a_o_items o_lane o_size (upd o_items y1.toNatClampNeg y0)) H := hP
    have hD : va_D A (W_X2_put cyI cyJ cyO h_o a_o_items o_lane o_size (upd o_items y1.toNatClampNeg y0)) := hD
    rw [hQ]
    exact W.vret hx hb hr (fun t ht hW => ⟨⟨(upd o_items y1.toNatClampNeg y0), rfl, okS hw, by rw [ht]; exact hP, va_K.moved hW.alike hK, hD⟩, hS.F ht⟩) hS.2.2 dX2_put_41
  unfold f_X2_put at hw
  have hP : va_P (dC, dI) vwCl (W_X2_put cyI cyJ cyO h_o a_o_items o_lane o_size o_items) s.heap := hP
  obtain ⟨H, hH⟩ : ∃ H, H = s.heap := ⟨_, rfl⟩
  obtain ⟨locs, hlo⟩ : ∃ x : List Loc, x = [] := ⟨_, rfl⟩
  have hP : va_P (dC, dI) vwCl (W_X2_put cyI cyJ cyO h_o a_o_items o_lane o_size o_items) H := by rw [hH]; exact hP
  have hS : va_S A s.heap H locs := by rw [hH, hlo]; exact hS
  refine kH hH hlo ?_
  clear hH hlo
  refine lv_aload_n hx hb dX2_put_0 rfl (lv_at hl 0 rfl) ?_
  refine lv_iload_n hx hb dX2_put_1 rfl (lv_at hl 1 rfl) ?_
  refine lv_iconst (v := 1) hx hb dX2_put_2 (by decide) ?_
  have hPc := hP.sub (ws' := (W_X2_has cyI cyJ cyO h_o a_o_items o_lane o_size)) [0] rfl
  have hDc := hD.sub (ws' := (W_X2_has cyI cyJ cyO h_o a_o_items o_lane o_size)) [0] (by decide +kernel) rfl
  have hFc := va_free (wc := (W_X2_has cyI cyJ cyO h_o a_o_items o_lane o_size)) hD hS hA [0] rfl
  refine kc_i (wr := [(a_o_items, .inl (cyI, 16, .inl o_items))]) (va_runV (As := [.int x1, .int 1]) (rest := []) ⟨hx, hb, hml, hown, hts⟩ (c_X2_has l dC dI cyI cyJ cyO H.size h_o a_o_items o_lane o_size x1 1 _ (okb1 hw)) (cwV 2 hts (gdV (fun w h => List.mem_cons_of_mem _ h) q_639 q_632 q_633 q_7 q_634) rfl rfl rfl (by decide +kernel) ⟨Nat.le_of_ble_eq_true rfl, Nat.le_of_ble_eq_true rfl⟩) ⟨(kpre zN_ok hK hPc hDc trivial hS hFc).1, va_recv hK hP (ci := 2) (q0 := 0) rfl rfl, (kpre zN_ok hK hPc hDc trivial hS hFc).2⟩ rfl rfl hl.1 rfl (lv_room (Nat.le_of_ble_eq_true rfl)) dX2_put_3 ⟨Nat.le_of_ble_eq_true rfl, Nat.le_of_ble_eq_true rfl⟩) hP hD hS hFc [0] [1] rfl rfl (by decide +kernel) (by decide +kernel) (fun r_2 u H locs hw hP hD hS => ?_)
  try dsimp only at hw
  have hP : va_P (dC, dI) vwCl (W_X2_put cyI cyJ cyO h_o a_o_items o_lane o_size o_items) H := hP.sub [1, 0] rfl
  have hD : va_D A (W_X2_put cyI cyJ cyO h_o a_o_items o_lane o_size o_items) := hD.sub [1, 0] (by decide +kernel) rfl
  clear hPc hDc hFc
  refine lv_if_eq (tgt := 41) hx hb dX2_put_6 (by decide) (fun c_3 => ?_) (fun c_3 => ?_)
  · replace hw := okT hw c_3
    clear c_3
    rw [hQ]
    exact W.vret hx hb hr (fun t ht hW => ⟨⟨o_items, rfl, okS hw, by rw [ht]; exact hP, va_K.moved hW.alike hK, hD⟩, hS.F ht⟩) hS.2.2 dX2_put_41
  · replace hw := okF hw c_3
    clear c_3
    refine lv_aload_n hx hb dX2_put_9 rfl (lv_at hl 0 rfl) ?_
    refine va_get (D := (dC, dI)) (ci := 2) (v := .ref a_o_items) (C := RX2) (T := TX2) (N := 3) hx hb hts hi2 hown hK hP 0 rfl rfl 0 (by decide) hq0 (fun _ h9 => h9) rfl dX2_put_10 ?_
    refine lv_iload_n hx hb dX2_put_13 rfl (lv_at hl 1 rfl) ?_
    refine lv_aload_n hx hb dX2_put_14 rfl (lv_at hl 0 rfl) ?_
    refine va_get (D := (dC, dI)) (ci := 2) (v := .int o_lane) (C := RX2) (T := TX2) (N := 3) hx hb hts hi2 hown hK hP 0 rfl rfl 1 (by decide) hq2 (fun _ h9 => h9) rfl dX2_put_15 ?_
    refine lv_if_ne (tgt := 26) hx hb dX2_put_18 (by decide) (fun c_4 => ?_) (fun c_4 => ?_)
    · replace hw := okF hw c_4
      clear c_4
      refine lv_aload_n hx hb dX2_put_26 rfl (lv_at hl 0 rfl) ?_
      refine va_get (D := (dC, dI)) (ci := 2) (v := .int o_lane) (C := RX2) (T := TX2) (N := 3) hx hb hts hi2 hown hK hP 0 rfl rfl 1 (by decide) hq2 (fun _ h9 => h9) rfl dX2_put_27 ?_
      refine lv_iconst (v := 1) hx hb dX2_put_30 (by decide) ?_
      refine lv_icmp_ne (tgt := 39) hx hb dX2_put_31 (by decide) (fun c_5 => ?_) (fun c_5 => ?_)
      · replace hw := okF hw c_5
        clear c_5
        refine lv_iload_n hx hb dX2_put_39 rfl (lv_at hl 2 rfl) ?_
        exact w40 x2 x1 o_items _ _ hP hD hS _ (lv_sub hl [] rfl) hw
      · replace hw := okT hw c_5
        clear c_5
        refine lv_iload_n hx hb dX2_put_34 rfl (lv_at hl 2 rfl) ?_
        refine lv_i2s (v := x2.toInt16.toInt32) hx hb dX2_put_35 rfl ?_
        refine lv_goto (tgt := 40) hx hb dX2_put_36 (by decide) ?_
        exact w40 x2.toInt16.toInt32 x1 o_items _ _ hP hD hS _ (lv_sub hl [] rfl) hw
    · replace hw := okT hw c_4
      clear c_4
      refine lv_iload_n hx hb dX2_put_21 rfl (lv_at hl 2 rfl) ?_
      refine lv_i2b (v := x2.toInt8.toInt32) hx hb dX2_put_22 rfl ?_
      refine lv_goto (tgt := 40) hx hb dX2_put_23 (by decide) ?_
      exact w40 x2.toInt8.toInt32 x1 o_items _ _ hP hD hS _ (lv_sub hl [] rfl) hw
/-! ===== X2_at ===== -/
theorem dX2_at_0 : decode cX2_at 0 = .ok (.aload_n 0, 1) := by decide +kernel
theorem dX2_at_1 : decode cX2_at 1 = .ok (.iload_n 1, 1) := by decide +kernel
theorem dX2_at_2 : decode cX2_at 2 = .ok (.iconst 1, 1) := by decide +kernel
theorem dX2_at_3 : decode cX2_at 3 = .ok (.invokevirtual 22, 3) := by decide +kernel
theorem dX2_at_6 : decode cX2_at 6 = .ok (.ifCond .eq 12, 3) := by decide +kernel
theorem dX2_at_9 : decode cX2_at 9 = .ok (.aload_n 0, 1) := by decide +kernel
theorem dX2_at_10 : decode cX2_at 10 = .ok (.getfield 9, 3) := by decide +kernel
theorem dX2_at_13 : decode cX2_at 13 = .ok (.iload_n 1, 1) := by decide +kernel
theorem dX2_at_14 : decode cX2_at 14 = .ok (.iaload, 1) := by decide +kernel
theorem dX2_at_15 : decode cX2_at 15 = .ok (.goto 4, 3) := by decide +kernel
theorem dX2_at_18 : decode cX2_at 18 = .ok (.iconst (-1), 1) := by decide +kernel
theorem dX2_at_19 : decode cX2_at 19 = .ok (.ireturn, 1) := by decide +kernel
abbrev W_X2_at (cyI cyJ cyO : ClassId) (h_o a_o_items : Nat) (o_lane : Int32) (o_size : Int32) (o_items : Nat → Int32) : va_W := [(h_o, .inr (2, [.ref a_o_items, .int o_lane, .int o_size])), (a_o_items, .inl (cyI, 16, .inl o_items))]
def f_X2_at (x1 : Int32) (o_size : Int32) (o_items : Nat → Int32) : Option (Int32) :=
  bd1 (f_X2_has x1 1 o_size) fun r_1 =>
  if r_1 = 0 then
    some (-1)
  else
    chk (¬ (x1 < 0 ∨ 16 ≤ x1.toNatClampNeg)) <|
    some (o_items x1.toNatClampNeg)
abbrev rm_X2_at : Room := { frames := 1, cells := 0, slots := 0, locals := 22 }
set_option maxRecDepth 100000 in
set_option maxHeartbeats 4000000 in
theorem c_X2_at (l : Launch) (dC : Nat → ClassId) (dI : Nat → Nat → Nat) (cyI cyJ cyO : ClassId) (sz : Nat) (h_o a_o_items : Nat) (o_lane : Int32) (o_size : Int32) (o_items : Nat → Int32) (x1 : Int32) (post : Int32 → Prop) (hf : okP (f_X2_at x1 o_size o_items) post) : Ci l (dC, dI) (tyL cyI cyJ cyO) yX2_at wsX2_at rm_X2_at [.ref h_o, .int x1] sz (W_X2_at cyI cyJ cyO h_o a_o_items o_lane o_size o_items) zN (fun r (_ : Unit) => post r) (fun _ => (W_X2_at cyI cyJ cyO h_o a_o_items o_lane o_size o_items)) := by
  refine Met.ofW (cc := cX2_at) (maxL := 2) (ret := (some .int)) (by decide) rfl ?_
  intro p e s m args below meth c s₁ B hml hv
  obtain ⟨rfl, hsz, hP, hK, hD0, hZ⟩ := hv
  have hx := B.exec
  have hb := B.bytes
  have hr := B.returns
  have hts := atoms_spec (ws := wsX2_at) B.pre
  have hown : s.vm.findClass RX2 = some m.cls := findClass_of_methodNamed B.named
  have hlocks := B.notSynchronized
  subst hsz
  have hD := hD0.self (sz := s.heap.size)
  generalize hAe : va_A (W_X2_at cyI cyJ cyO h_o a_o_items o_lane o_size o_items) s.heap.size = A at hD hZ ⊢
  have hA : ∀ q : Nat, s.heap.size ≤ q → A q := fun q h => by rw [← hAe]; exact Or.inr h
  clear hAe hD0
  have hS : va_S A s.heap s.heap [] := va_S.rf
  have hl := lv_entry ([.ref h_o, .int x1]) (n := 2) (Nat.le_of_ble_eq_true rfl)
  rw [lg_entry_eq]
  generalize (lg_sl ([.ref h_o, .int x1]) ++ List.replicate (2 - (lg_sl ([.ref h_o, .int x1])).length) Slot.unset).toArray = ls at hl ⊢
  have hl : lv_has ls 2 [(0, .ref h_o), (1, .int x1)] := hl
  refine kW (fun Q hQ => ?_)
  have hq0 := hts _ (List.mem_cons_of_mem _ q_257)
  have hi2 : ∀ w ∈ u_ws RX2 TX2 3, w ∈ wsX2_at := fun w h => List.mem_cons_of_mem _ (inX2 w h)
  have hw := hf
  unfold f_X2_at at hw
  have hP : va_P (dC, dI) vwCl (W_X2_at cyI cyJ cyO h_o a_o_items o_lane o_size o_items) s.heap := hP
  obtain ⟨H, hH⟩ : ∃ H, H = s.heap := ⟨_, rfl⟩
  obtain ⟨locs, hlo⟩ : ∃ x : List Loc, x = [] := ⟨_, rfl⟩
  have hP : va_P (dC, dI) vwCl (W_X2_at cyI cyJ cyO h_o a_o_items o_lane o_size o_items) H := by rw [hH]; exact hP
  have hS : va_S A s.heap H locs := by rw [hH, hlo]; exact hS
  refine kH hH hlo ?_
  clear hH hlo
  refine lv_aload_n hx hb dX2_at_0 rfl (lv_at hl 0 rfl) ?_
  refine lv_iload_n hx hb dX2_at_1 rfl (lv_at hl 1 rfl) ?_
  refine lv_iconst (v := 1) hx hb dX2_at_2 (by decide) ?_
  have hPc := hP.sub (ws' := (W_X2_has cyI cyJ cyO h_o a_o_items o_lane o_size)) [0] rfl
  have hDc := hD.sub (ws' := (W_X2_has cyI cyJ cyO h_o a_o_items o_lane o_size)) [0] (by decide +kernel) rfl
  have hFc := va_free (wc := (W_X2_has cyI cyJ cyO h_o a_o_items o_lane o_size)) hD hS hA [0] rfl
  refine kc_i (wr := [(a_o_items, .inl (cyI, 16, .inl o_items))]) (va_runV (As := [.int x1, .int 1]) (rest := []) ⟨hx, hb, hml, hown, hts⟩ (c_X2_has l dC dI cyI cyJ cyO H.size h_o a_o_items o_lane o_size x1 1 _ (okb1 hw)) (cwV 2 hts (gdV (fun w h => List.mem_cons_of_mem _ h) q_639 q_632 q_633 q_7 q_634) rfl rfl rfl (by decide +kernel) ⟨Nat.le_of_ble_eq_true rfl, Nat.le_of_ble_eq_true rfl⟩) ⟨(kpre zN_ok hK hPc hDc trivial hS hFc).1, va_recv hK hP (ci := 2) (q0 := 0) rfl rfl, (kpre zN_ok hK hPc hDc trivial hS hFc).2⟩ rfl rfl hl.1 rfl (lv_room (Nat.le_of_ble_eq_true rfl)) dX2_at_3 ⟨Nat.le_of_ble_eq_true rfl, Nat.le_of_ble_eq_true rfl⟩) hP hD hS hFc [0] [1] rfl rfl (by decide +kernel) (by decide +kernel) (fun r_1 u H locs hw hP hD hS => ?_)
  try dsimp only at hw
  have hP : va_P (dC, dI) vwCl (W_X2_at cyI cyJ cyO h_o a_o_items o_lane o_size o_items) H := hP.sub [1, 0] rfl
  have hD : va_D A (W_X2_at cyI cyJ cyO h_o a_o_items o_lane o_size o_items) := hD.sub [1, 0] (by decide +kernel) rfl
  clear hPc hDc hFc
  refine lv_if_eq (tgt := 18) hx hb dX2_at_6 (by decide) (fun c_2 => ?_) (fun c_2 => ?_)
  · replace hw := okT hw c_2
    clear c_2
    refine lv_iconst (v := (-1)) hx hb dX2_at_18 (by decide) ?_
    rw [hQ]
    exact W.iret (v := (-1)) hx hb hr (fun t ht hW => ⟨⟨(-1), (), rfl, okS hw, by rw [ht]; exact hP, va_K.moved hW.alike hK, hD⟩, hS.F ht⟩) hS.2.2 dX2_at_19
  · replace hw := okF hw c_2
    clear c_2
    refine lv_aload_n hx hb dX2_at_9 rfl (lv_at hl 0 rfl) ?_
    refine va_get (D := (dC, dI)) (ci := 2) (v := .ref a_o_items) (C := RX2) (T := TX2) (N := 3) hx hb hts hi2 hown hK hP 0 rfl rfl 0 (by decide) hq0 (fun _ h9 => h9) rfl dX2_at_10 ?_
    refine lv_iload_n hx hb dX2_at_13 rfl (lv_at hl 1 rfl) ?_
    obtain ⟨h_3, hw⟩ := okC hw
    refine va_iald (i := x1) hx hb hK hP 1 0 rfl rfl h_3 dX2_at_14 ?_
    refine lv_goto (tgt := 19) hx hb dX2_at_15 (by decide) ?_
    rw [hQ]
    exact W.iret (v := o_items x1.toNatClampNeg) hx hb hr (fun t ht hW => ⟨⟨o_items x1.toNatClampNeg, (), rfl, okS hw, by rw [ht]; exact hP, va_K.moved hW.alike hK, hD⟩, hS.F ht⟩) hS.2.2 dX2_at_19
/-! ===== X3_byteOf ===== -/
theorem dX3_byteOf_0 : decode cX3_byteOf 0 = .ok (.lload_n 0, 1) := by decide +kernel
theorem dX3_byteOf_1 : decode cX3_byteOf 1 = .ok (.bipush 8, 2) := by decide +kernel
theorem dX3_byteOf_3 : decode cX3_byteOf 3 = .ok (.iload_n 2, 1) := by decide +kernel
theorem dX3_byteOf_4 : decode cX3_byteOf 4 = .ok (.imul, 1) := by decide +kernel
theorem dX3_byteOf_5 : decode cX3_byteOf 5 = .ok (.lushr, 1) := by decide +kernel
theorem dX3_byteOf_6 : decode cX3_byteOf 6 = .ok (.l2i, 1) := by decide +kernel
theorem dX3_byteOf_7 : decode cX3_byteOf 7 = .ok (.sipush 255, 3) := by decide +kernel
theorem dX3_byteOf_10 : decode cX3_byteOf 10 = .ok (.iand, 1) := by decide +kernel
theorem dX3_byteOf_11 : decode cX3_byteOf 11 = .ok (.ireturn, 1) := by decide +kernel
abbrev W_X3_byteOf (cyI cyJ cyO : ClassId) : va_W := []
def f_X3_byteOf (x1 : Int64) (x2 : Int32) : Option (Int32) :=
  some ((((x1.toUInt64 >>> ((8 * x2).toInt64.toUInt64 &&& Int64.toUInt64 63)).toInt64).toInt32) &&& 255)
abbrev rm_X3_byteOf : Room := { frames := 0, cells := 0, slots := 0, locals := 0 }
set_option maxRecDepth 100000 in
set_option maxHeartbeats 4000000 in
theorem c_X3_byteOf (l : Launch) (dC : Nat → ClassId) (dI : Nat → Nat → Nat) (cyI cyJ cyO : ClassId) (sz : Nat) (x1 : Int64) (x2 : Int32) (post : Int32 → Prop) (hf : okP (f_X3_byteOf x1 x2) post) : Ci l (dC, dI) (tyL cyI cyJ cyO) yX3_byteOf wsX3_byteOf rm_X3_byteOf [.long x1, .int x2] sz (W_X3_byteOf cyI cyJ cyO) zN (fun r (_ : Unit) => post r) (fun _ => (W_X3_byteOf cyI cyJ cyO)) := by
  refine Met.ofW (cc := cX3_byteOf) (maxL := 3) (ret := (some .int)) (by decide) rfl ?_
  intro p e s m args below meth c s₁ B hml hv
  obtain ⟨rfl, hsz, hP, hK, hD0, hZ⟩ := hv
  have hx := B.exec
  have hb := B.bytes
  have hr := B.returns
  have hts := atoms_spec (ws := wsX3_byteOf) B.pre
  have hown : s.vm.findClass RX3 = some m.cls := findClass_of_methodNamed B.named
  have hlocks := B.notSynchronized
  subst hsz
  have hD := hD0.self (sz := s.heap.size)
  generalize hAe : va_A (W_X3_byteOf cyI cyJ cyO) s.heap.size = A at hD hZ ⊢
  have hA : ∀ q : Nat, s.heap.size ≤ q → A q := fun q h => by rw [← hAe]; exact Or.inr h
  clear hAe hD0
  have hS : va_S A s.heap s.heap [] := va_S.rf
  have hl := lv_entry ([.long x1, .int x2]) (n := 3) (Nat.le_of_ble_eq_true rfl)
  rw [lg_entry_eq]
  generalize (lg_sl ([.long x1, .int x2]) ++ List.replicate (3 - (lg_sl ([.long x1, .int x2])).length) Slot.unset).toArray = ls at hl ⊢
  have hl : lv_has ls 3 [(0, .long x1), (2, .int x2)] := hl
  refine kW (fun Q hQ => ?_)
  have hw := hf
  unfold f_X3_byteOf at hw
  have hP : va_P (dC, dI) vwCl (W_X3_byteOf cyI cyJ cyO) s.heap := hP
  obtain ⟨H, hH⟩ : ∃ H, H = s.heap := ⟨_, rfl⟩
  obtain ⟨locs, hlo⟩ : ∃ x : List Loc, x = [] := ⟨_, rfl⟩
  have hP : va_P (dC, dI) vwCl (W_X3_byteOf cyI cyJ cyO) H := by rw [hH]; exact hP
  have hS : va_S A s.heap H locs := by rw [hH, hlo]; exact hS
  refine kH hH hlo ?_
  clear hH hlo
  refine lv_lload_n hx hb dX3_byteOf_0 rfl (lv_at hl 0 rfl) ?_
  refine lv_bipush (v := 8) hx hb dX3_byteOf_1 (by decide) ?_
  refine lv_iload_n hx hb dX3_byteOf_3 rfl (lv_at hl 1 rfl) ?_
  refine lv_imul hx hb dX3_byteOf_4 ?_
  refine lv_lushr (v := (x1.toUInt64 >>> ((8 * x2).toInt64.toUInt64 &&& Int64.toUInt64 63)).toInt64) hx hb dX3_byteOf_5 rfl ?_
  refine lv_l2i (v := ((x1.toUInt64 >>> ((8 * x2).toInt64.toUInt64 &&& Int64.toUInt64 63)).toInt64).toInt32) hx hb dX3_byteOf_6 rfl ?_
  refine lv_sipush (v := 255) hx hb dX3_byteOf_7 (by decide) ?_
  refine lv_iand hx hb dX3_byteOf_10 ?_
  rw [hQ]
  exact W.iret (v := (((x1.toUInt64 >>> ((8 * x2).toInt64.toUInt64 &&& Int64.toUInt64 63)).toInt64).toInt32) &&& 255) hx hb hr (fun t ht hW => ⟨⟨(((x1.toUInt64 >>> ((8 * x2).toInt64.toUInt64 &&& Int64.toUInt64 63)).toInt64).toInt32) &&& 255, (), rfl, okS hw, by rw [ht]; exact hP, va_K.moved hW.alike hK, hD⟩, hS.F ht⟩) hS.2.2 dX3_byteOf_11
/-! ===== X3_add ===== -/
theorem dX3_add_0 : decode cX3_add 0 = .ok (.iload_n 3, 1) := by decide +kernel
theorem dX3_add_1 : decode cX3_add 1 = .ok (.iconst 1, 1) := by decide +kernel
theorem dX3_add_2 : decode cX3_add 2 = .ok (.if_icmp .lt 9, 3) := by decide +kernel
theorem dX3_add_5 : decode cX3_add 5 = .ok (.iload_n 3, 1) := by decide +kernel
theorem dX3_add_6 : decode cX3_add 6 = .ok (.bipush 8, 2) := by decide +kernel
theorem dX3_add_8 : decode cX3_add 8 = .ok (.if_icmp .le 5, 3) := by decide +kernel
theorem dX3_add_11 : decode cX3_add 11 = .ok (.iconst (-1), 1) := by decide +kernel
theorem dX3_add_12 : decode cX3_add 12 = .ok (.ireturn, 1) := by decide +kernel
theorem dX3_add_13 : decode cX3_add 13 = .ok (.iconst 0, 1) := by decide +kernel
theorem dX3_add_14 : decode cX3_add 14 = .ok (.istore 4, 2) := by decide +kernel
theorem dX3_add_16 : decode cX3_add 16 = .ok (.iload 4, 2) := by decide +kernel
theorem dX3_add_18 : decode cX3_add 18 = .ok (.iload_n 3, 1) := by decide +kernel
theorem dX3_add_19 : decode cX3_add 19 = .ok (.if_icmp .ge 33, 3) := by decide +kernel
theorem dX3_add_22 : decode cX3_add 22 = .ok (.lload_n 1, 1) := by decide +kernel
theorem dX3_add_23 : decode cX3_add 23 = .ok (.iload 4, 2) := by decide +kernel
theorem dX3_add_25 : decode cX3_add 25 = .ok (.invokestatic 31, 3) := by decide +kernel
theorem dX3_add_28 : decode cX3_add 28 = .ok (.bipush 32, 2) := by decide +kernel
theorem dX3_add_30 : decode cX3_add 30 = .ok (.if_icmp .lt 14, 3) := by decide +kernel
theorem dX3_add_33 : decode cX3_add 33 = .ok (.lload_n 1, 1) := by decide +kernel
theorem dX3_add_34 : decode cX3_add 34 = .ok (.iload 4, 2) := by decide +kernel
theorem dX3_add_36 : decode cX3_add 36 = .ok (.invokestatic 31, 3) := by decide +kernel
theorem dX3_add_39 : decode cX3_add 39 = .ok (.bipush 126, 2) := by decide +kernel
theorem dX3_add_41 : decode cX3_add 41 = .ok (.if_icmp .le 5, 3) := by decide +kernel
theorem dX3_add_44 : decode cX3_add 44 = .ok (.iconst (-1), 1) := by decide +kernel
theorem dX3_add_45 : decode cX3_add 45 = .ok (.ireturn, 1) := by decide +kernel
theorem dX3_add_46 : decode cX3_add 46 = .ok (.iinc 4 1, 3) := by decide +kernel
theorem dX3_add_49 : decode cX3_add 49 = .ok (.goto (-33), 3) := by decide +kernel
theorem dX3_add_52 : decode cX3_add 52 = .ok (.aload_n 0, 1) := by decide +kernel
theorem dX3_add_53 : decode cX3_add 53 = .ok (.getfield 15, 3) := by decide +kernel
theorem dX3_add_56 : decode cX3_add 56 = .ok (.iload_n 3, 1) := by decide +kernel
theorem dX3_add_57 : decode cX3_add 57 = .ok (.iadd, 1) := by decide +kernel
theorem dX3_add_58 : decode cX3_add 58 = .ok (.bipush 60, 2) := by decide +kernel
theorem dX3_add_60 : decode cX3_add 60 = .ok (.if_icmp .le 6, 3) := by decide +kernel
theorem dX3_add_63 : decode cX3_add 63 = .ok (.bipush (-3), 2) := by decide +kernel
theorem dX3_add_65 : decode cX3_add 65 = .ok (.ireturn, 1) := by decide +kernel
theorem dX3_add_66 : decode cX3_add 66 = .ok (.iload_n 3, 1) := by decide +kernel
theorem dX3_add_67 : decode cX3_add 67 = .ok (.iconst 1, 1) := by decide +kernel
theorem dX3_add_68 : decode cX3_add 68 = .ok (.isub, 1) := by decide +kernel
theorem dX3_add_69 : decode cX3_add 69 = .ok (.istore 4, 2) := by decide +kernel
theorem dX3_add_71 : decode cX3_add 71 = .ok (.iload 4, 2) := by decide +kernel
theorem dX3_add_73 : decode cX3_add 73 = .ok (.ifCond .lt 34, 3) := by decide +kernel
theorem dX3_add_76 : decode cX3_add 76 = .ok (.aload_n 0, 1) := by decide +kernel
theorem dX3_add_77 : decode cX3_add 77 = .ok (.getfield 11, 3) := by decide +kernel
theorem dX3_add_80 : decode cX3_add 80 = .ok (.aload_n 0, 1) := by decide +kernel
theorem dX3_add_81 : decode cX3_add 81 = .ok (.getfield 15, 3) := by decide +kernel
theorem dX3_add_84 : decode cX3_add 84 = .ok (.lload_n 1, 1) := by decide +kernel
theorem dX3_add_85 : decode cX3_add 85 = .ok (.iload 4, 2) := by decide +kernel
theorem dX3_add_87 : decode cX3_add 87 = .ok (.invokestatic 31, 3) := by decide +kernel
theorem dX3_add_90 : decode cX3_add 90 = .ok (.iastore, 1) := by decide +kernel
theorem dX3_add_91 : decode cX3_add 91 = .ok (.aload_n 0, 1) := by decide +kernel
theorem dX3_add_92 : decode cX3_add 92 = .ok (.dup, 1) := by decide +kernel
theorem dX3_add_93 : decode cX3_add 93 = .ok (.getfield 15, 3) := by decide +kernel
theorem dX3_add_96 : decode cX3_add 96 = .ok (.iconst 1, 1) := by decide +kernel
theorem dX3_add_97 : decode cX3_add 97 = .ok (.iadd, 1) := by decide +kernel
theorem dX3_add_98 : decode cX3_add 98 = .ok (.putfield 15, 3) := by decide +kernel
theorem dX3_add_101 : decode cX3_add 101 = .ok (.iinc 4 (-1), 3) := by decide +kernel
theorem dX3_add_104 : decode cX3_add 104 = .ok (.goto (-33), 3) := by decide +kernel
theorem dX3_add_107 : decode cX3_add 107 = .ok (.aload_n 0, 1) := by decide +kernel
theorem dX3_add_108 : decode cX3_add 108 = .ok (.getfield 15, 3) := by decide +kernel
theorem dX3_add_111 : decode cX3_add 111 = .ok (.ireturn, 1) := by decide +kernel
abbrev W_X3_add (cyI cyJ cyO : ClassId) (h_o a_o_bytes a_o_newFar a_o_newTones a_o_newCurrents : Nat) (o_length : Int32) (o_place : Int32) (o_bytes : Nat → Int32) : va_W := [(h_o, .inr (3, [.ref a_o_bytes, .int o_length, .int o_place, .ref a_o_newFar, .ref a_o_newTones, .ref a_o_newCurrents])), (a_o_bytes, .inl (cyI, 60, .inl o_bytes))]
def f_X3_add_L71b (k71 : Int64 → Int32 → Int32 → (Nat → Int32) → Option (Int32 × Int32 × (Nat → Int32))) (v1 : Int64) (v4 : Int32) (o_length : Int32) (o_bytes : Nat → Int32) : Option (Int32 × Int32 × (Nat → Int32)) :=
  if v4 < 0 then
    some (o_length, o_length, o_bytes)
  else
    bd1 (f_X3_byteOf v1 v4) fun r_1 =>
    chk (¬ (o_length < 0 ∨ 60 ≤ o_length.toNatClampNeg)) <|
    nm (o_length + 1) fun x_2 =>
    nm (v4 + (-1)) fun x_3 =>
    k71 v1 x_3 x_2 (upd o_bytes o_length.toNatClampNeg r_1)
def f_X3_add_L71 : Nat → Int64 → Int32 → Int32 → (Nat → Int32) → Option (Int32 × Int32 × (Nat → Int32))
  | 0 => fun _ _ _ _ => none
  | n + 1 => f_X3_add_L71b (f_X3_add_L71 n)
def f_X3_add_L16b (k16 : Int64 → Int32 → Int32 → Int32 → (Nat → Int32) → Option (Int32 × Int32 × (Nat → Int32))) (v1 : Int64) (v3 : Int32) (v4 : Int32) (o_length : Int32) (o_bytes : Nat → Int32) : Option (Int32 × Int32 × (Nat → Int32)) :=
  if v3 ≤ v4 then
    if (o_length + v3) ≤ 60 then
      nm (v3 - 1) fun x_4 =>
      f_X3_add_L71 FU v1 x_4 o_length o_bytes
    else
      some ((-3), o_length, o_bytes)
  else
    bd1 (f_X3_byteOf v1 v4) fun r_5 =>
    if r_5 < 32 then
      some ((-1), o_length, o_bytes)
    else
      bd1 (f_X3_byteOf v1 v4) fun r_6 =>
      if r_6 ≤ 126 then
        nm (v4 + 1) fun x_7 =>
        k16 v1 v3 x_7 o_length o_bytes
      else
        some ((-1), o_length, o_bytes)
def f_X3_add_L16 : Nat → Int64 → Int32 → Int32 → Int32 → (Nat → Int32) → Option (Int32 × Int32 × (Nat → Int32))
  | 0 => fun _ _ _ _ _ => none
  | n + 1 => f_X3_add_L16b (f_X3_add_L16 n)
def f_X3_add (x1 : Int64) (x2 : Int32) (o_length : Int32) (o_bytes : Nat → Int32) : Option (Int32 × Int32 × (Nat → Int32)) :=
  if x2 < 1 then
    some ((-1), o_length, o_bytes)
  else
    if x2 ≤ 8 then
      f_X3_add_L16 FU x1 x2 0 o_length o_bytes
    else
      some ((-1), o_length, o_bytes)
abbrev rm_X3_add : Room := { frames := 1, cells := 0, slots := 0, locals := 22 }
set_option maxRecDepth 100000 in
set_option maxHeartbeats 4000000 in
theorem c_X3_add (l : Launch) (dC : Nat → ClassId) (dI : Nat → Nat → Nat) (cyI cyJ cyO : ClassId) (sz : Nat) (h_o a_o_bytes a_o_newFar a_o_newTones a_o_newCurrents : Nat) (o_length : Int32) (o_place : Int32) (o_bytes : Nat → Int32) (x1 : Int64) (x2 : Int32) (post : (Int32 × Int32 × (Nat → Int32)) → Prop) (hf : okP (f_X3_add x1 x2 o_length o_bytes) post) : Ci l (dC, dI) (tyL cyI cyJ cyO) yX3_add wsX3_add rm_X3_add [.ref h_o, .long x1, .int x2] sz (W_X3_add cyI cyJ cyO h_o a_o_bytes a_o_newFar a_o_newTones a_o_newCurrents o_length o_place o_bytes) zN (fun r u => post (r, u)) (fun u => (W_X3_add cyI cyJ cyO h_o a_o_bytes a_o_newFar a_o_newTones a_o_newCurrents u.1 o_place u.2)) := by
  refine Met.ofW (cc := cX3_add) (maxL := 5) (ret := (some .int)) (by decide) rfl ?_
  intro p e s m args below meth c s₁ B hml hv
  obtain ⟨rfl, hsz, hP, hK, hD0, hZ⟩ := hv
  have hx := B.exec
  have hb := B.bytes
  have hr := B.returns
  have hts := atoms_spec (ws := wsX3_add) B.pre
  have hown : s.vm.findClass RX3 = some m.cls := findClass_of_methodNamed B.named
  have hlocks := B.notSynchronized
  subst hsz
  have hD := hD0.self (sz := s.heap.size)
  generalize hAe : va_A (W_X3_add cyI cyJ cyO h_o a_o_bytes a_o_newFar a_o_newTones a_o_newCurrents o_length o_place o_bytes) s.heap.size = A at hD hZ ⊢
  have hA : ∀ q : Nat, s.heap.size ≤ q → A q := fun q h => by rw [← hAe]; exact Or.inr h
  clear hAe hD0
  have hS : va_S A s.heap s.heap [] := va_S.rf
  have hl := lv_entry ([.ref h_o, .long x1, .int x2]) (n := 5) (Nat.le_of_ble_eq_true rfl)
  rw [lg_entry_eq]
  generalize (lg_sl ([.ref h_o, .long x1, .int x2]) ++ List.replicate (5 - (lg_sl ([.ref h_o, .long x1, .int x2])).length) Slot.unset).toArray = ls at hl ⊢
  have hl : lv_has ls 5 [(0, .ref h_o), (1, .long x1), (3, .int x2)] := hl
  refine kW (fun Q hQ => ?_)
  have hq0 := hts _ (List.mem_cons_of_mem _ q_232)
  have hi3 : ∀ w ∈ u_ws RX3 TX3 6, w ∈ wsX3_add := fun w h => List.mem_cons_of_mem _ (inX3 w h)
  have hq2 := hts _ (List.mem_cons_of_mem _ q_231)
  have hw := hf
  have w71 : ∀ (n : Nat), ∀ (v1 : Int64) (v4 : Int32) (o_length : Int32) (o_bytes : Nat → Int32) (H : Heap) (locs : List Loc), va_P (dC, dI) vwCl (W_X3_add cyI cyJ cyO h_o a_o_bytes a_o_newFar a_o_newTones a_o_newCurrents o_length o_place o_bytes) H → va_D A (W_X3_add cyI cyJ cyO h_o a_o_bytes a_o_newFar a_o_newTones a_o_newCurrents o_length o_place o_bytes) → va_S A s.heap H locs → ∀ (ls : Array Slot), lv_has ls 5 [(0, .ref h_o), (1, .long v1), (4, .int v4)] → okP (f_X3_add_L71 n v1 v4 o_length o_bytes) post → W p l e (headSpec wsX3_add rm_X3_add).room s m ([.ref h_o, .long x1, .int x2] : List Value).toArray below meth c H locs 0 0 Q (F0 m 71 ls []) := by
    intro n
    induction n with
    | zero =>
      intro v1 v4 o_length o_bytes H locs hP hD hS ls hl hw
      exact (ok0 hw).elim
    | succ n71 ih71 =>
      intro v1 v4 o_length o_bytes H locs hP hD hS ls hl hw
      replace hw : okP (f_X3_add_L71b (f_X3_add_L71 n71) v1 v4 o_length o_bytes) post := hw
      unfold f_X3_add_L71b at hw
      refine lv_iload hx hb dX3_add_71 (lv_at hl 2 rfl) ?_
      refine lv_if_lt (tgt := 107) hx hb dX3_add_73 (by decide) (fun c_1 => ?_) (fun c_1 => ?_)
      · replace hw := okT hw c_1
        clear c_1
        refine lv_aload_n hx hb dX3_add_107 rfl (lv_at hl 0 rfl) ?_
        refine va_get (D := (dC, dI)) (ci := 3) (v := .int o_length) (C := RX3) (T := TX3) (N := 6) hx hb hts hi3 hown hK hP 0 rfl rfl 1 (by decide) hq0 (fun _ h9 => h9) rfl dX3_add_108 ?_
        rw [hQ]
        exact W.iret (v := o_length) hx hb hr (fun t ht hW => ⟨⟨o_length, (o_length, o_bytes), rfl, okS hw, by rw [ht]; exact hP, va_K.moved hW.alike hK, hD⟩, hS.F ht⟩) hS.2.2 dX3_add_111
      · replace hw := okF hw c_1
        clear c_1
        refine lv_aload_n hx hb dX3_add_76 rfl (lv_at hl 0 rfl) ?_
        refine va_get (D := (dC, dI)) (ci := 3) (v := .ref a_o_bytes) (C := RX3) (T := TX3) (N := 6) hx hb hts hi3 hown hK hP 0 rfl rfl 0 (by decide) hq2 (fun _ h9 => h9) rfl dX3_add_77 ?_
        refine lv_aload_n hx hb dX3_add_80 rfl (lv_at hl 0 rfl) ?_
        refine va_get (D := (dC, dI)) (ci := 3) (v := .int o_length) (C := RX3) (T := TX3) (N := 6) hx hb hts hi3 hown hK hP 0 rfl rfl 1 (by decide) hq0 (fun _ h9 => h9) rfl dX3_add_81 ?_
        refine lv_lload_n hx hb dX3_add_84 rfl (lv_at hl 1 rfl) ?_
        refine lv_iload hx hb dX3_add_85 (lv_at hl 2 rfl) ?_
        have hFc := va_free (wc := []) hD hS hA [] rfl
        refine kp_i (va_runS (As := [.long v1, .int v4]) (rest := [.int o_length, .ref a_o_bytes]) ⟨hx, hb, hml, hown, hts⟩ (c_X3_byteOf l dC dI cyI cyJ cyO H.size v1 v4 _ (okb1 hw)) (va_cwS 2 hts (gdS (fun w h => List.mem_cons_of_mem _ h) q_347 q_348 q_6 q_349) rfl rfl rfl (by decide +kernel) ⟨Nat.le_of_ble_eq_true rfl, Nat.le_of_ble_eq_true rfl⟩) (kpre zN_ok hK va_P0 va_D0 trivial hS hFc) rfl rfl hl.1 rfl (lv_room (Nat.le_of_ble_eq_true rfl)) dX3_add_87 ⟨Nat.le_of_ble_eq_true rfl, Nat.le_of_ble_eq_true rfl⟩) hP hD hS hFc (fun r_2 H locs hw hP hS => ?_)
        try dsimp only at hw
        clear hFc
        obtain ⟨h_3, hw⟩ := okC hw
        refine va_iast (i := o_length) (x := r_2) hx hb hK hP hD hS 1 0 rfl rfl h_3 dX3_add_90 (fun H locs hP hD hS => ?_)
        have hP : va_P (dC, dI) vwCl (W_X3_add cyI cyJ cyO h_o a_o_bytes a_o_newFar a_o_newTones a_o_newCurrents o_length o_place (upd o_bytes o_length.toNatClampNeg r_2)) H := hP
        have hD : va_D A (W_X3_add cyI cyJ cyO h_o a_o_bytes a_o_newFar a_o_newTones a_o_newCurrents o_length o_place (upd o_bytes o_length.toNatClampNeg r_2)) := hD
        refine lv_aload_n hx hb dX3_add_91 rfl (lv_at hl 0 rfl) ?_
        refine lv_dup hx hb dX3_add_92 rfl ?_
        refine va_get (D := (dC, dI)) (ci := 3) (v := .int o_length) (C := RX3) (T := TX3) (N := 6) hx hb hts hi3 hown hK hP 0 rfl rfl 1 (by decide) hq0 (fun _ h9 => h9) rfl dX3_add_93 ?_
        refine lv_iconst (v := 1) hx hb dX3_add_96 (by decide) ?_
        refine lv_iadd hx hb dX3_add_97 ?_
        refine lv_topi (fun x_4 ex_4 => ?_)
        replace hw := okN ex_4 hw
        clear ex_4
        refine va_put (D := (dC, dI)) (ci := 3) (v := .int x_4) (ty := .int) (C := RX3) (T := TX3) (N := 6) hx hb hts hi3 tyX3 tyX3_ok nmX3 hown hK hP hD hS 0 rfl rfl 1 (by decide) hq0 (fun _ h9 => h9) rfl (by decide +kernel) rfl rfl (Nat.le_of_ble_eq_true rfl) dX3_add_98 (fun H locs hP hD hS => ?_)
        have hP : va_P (dC, dI) vwCl (W_X3_add cyI cyJ cyO h_o a_o_bytes a_o_newFar a_o_newTones a_o_newCurrents x_4 o_place (upd o_bytes o_length.toNatClampNeg r_2)) H := hP
        have hD : va_D A (W_X3_add cyI cyJ cyO h_o a_o_bytes a_o_newFar a_o_newTones a_o_newCurrents x_4 o_place (upd o_bytes o_length.toNatClampNeg r_2)) := hD
        obtain ⟨x_5, ex_5⟩ : ∃ y : Int32, y = v4 + (-1) := ⟨_, rfl⟩
        replace hw := okN ex_5 hw
        refine lv_iinc (v := x_5) (lv' := [(4, .int x_5), (0, .ref h_o), (1, .long v1)]) hx hb dX3_add_101 hl (k := 2) rfl (by rw [ex_5]; rfl) (by decide) rfl (fun ls hl => ?_)
        clear ex_5
        refine lv_goto (tgt := 71) hx hb dX3_add_104 (by decide) ?_
        exact ih71 v1 x_5 x_4 (upd o_bytes o_length.toNatClampNeg r_2) _ _ hP hD hS _ (lv_sub hl [1, 2, 0] rfl) hw
  have w16 : ∀ (n : Nat), ∀ (v1 : Int64) (v3 : Int32) (v4 : Int32) (o_length : Int32) (o_bytes : Nat → Int32) (H : Heap) (locs : List Loc), va_P (dC, dI) vwCl (W_X3_add cyI cyJ cyO h_o a_o_bytes a_o_newFar a_o_newTones a_o_newCurrents o_length o_place o_bytes) H → va_D A (W_X3_add cyI cyJ cyO h_o a_o_bytes a_o_newFar a_o_newTones a_o_newCurrents o_length o_place o_bytes) → va_S A s.heap H locs → ∀ (ls : Array Slot), lv_has ls 5 [(0, .ref h_o), (1, .long v1), (3, .int v3), (4, .int v4)] → okP (f_X3_add_L16 n v1 v3 v4 o_length o_bytes) post → W p l e (headSpec wsX3_add rm_X3_add).room s m ([.ref h_o, .long x1, .int x2] : List Value).toArray below meth c H locs 0 0 Q (F0 m 16 ls []) := by
    intro n
    induction n with
    | zero =>
      intro v1 v3 v4 o_length o_bytes H locs hP hD hS ls hl hw
      exact (ok0 hw).elim
    | succ n16 ih16 =>
      intro v1 v3 v4 o_length o_bytes H locs hP hD hS ls hl hw
      replace hw : okP (f_X3_add_L16b (f_X3_add_L16 n16) v1 v3 v4 o_length o_bytes) post := hw
      unfold f_X3_add_L16b at hw
      refine lv_iload hx hb dX3_add_16 (lv_at hl 3 rfl) ?_
      refine lv_iload_n hx hb dX3_add_18 rfl (lv_at hl 2 rfl) ?_
      refine lv_icmp_ge (tgt := 52) hx hb dX3_add_19 (by decide) (fun c_6 => ?_) (fun c_6 => ?_)
      · replace hw := okT hw c_6
        clear c_6
        refine lv_aload_n hx hb dX3_add_52 rfl (lv_at hl 0 rfl) ?_
        refine va_get (D := (dC, dI)) (ci := 3) (v := .int o_length) (C := RX3) (T := TX3) (N := 6) hx hb hts hi3 hown hK hP 0 rfl rfl 1 (by decide) hq0 (fun _ h9 => h9) rfl dX3_add_53 ?_
        refine lv_iload_n hx hb dX3_add_56 rfl (lv_at hl 2 rfl) ?_
        refine lv_iadd hx hb dX3_add_57 ?_
        refine lv_bipush (v := 60) hx hb dX3_add_58 (by decide) ?_
        refine lv_icmp_le (tgt := 66) hx hb dX3_add_60 (by decide) (fun c_7 => ?_) (fun c_7 => ?_)
        · replace hw := okT hw c_7
          clear c_7
          refine lv_iload_n hx hb dX3_add_66 rfl (lv_at hl 2 rfl) ?_
          refine lv_iconst (v := 1) hx hb dX3_add_67 (by decide) ?_
          refine lv_isub hx hb dX3_add_68 ?_
          refine lv_topi (fun x_8 ex_8 => ?_)
          replace hw := okN ex_8 hw
          clear ex_8
          refine lv_istore (lv' := [(4, .int x_8), (0, .ref h_o), (1, .long v1), (3, .int v3)]) hx hb dX3_add_69 hl (by decide) rfl (fun ls hl => ?_)
          exact w71 FU v1 x_8 o_length o_bytes _ _ hP hD hS _ (lv_sub hl [1, 2, 0] rfl) hw
        · replace hw := okF hw c_7
          clear c_7
          refine lv_bipush (v := (-3)) hx hb dX3_add_63 (by decide) ?_
          rw [hQ]
          exact W.iret (v := (-3)) hx hb hr (fun t ht hW => ⟨⟨(-3), (o_length, o_bytes), rfl, okS hw, by rw [ht]; exact hP, va_K.moved hW.alike hK, hD⟩, hS.F ht⟩) hS.2.2 dX3_add_65
      · replace hw := okF hw c_6
        clear c_6
        refine lv_lload_n hx hb dX3_add_22 rfl (lv_at hl 1 rfl) ?_
        refine lv_iload hx hb dX3_add_23 (lv_at hl 3 rfl) ?_
        have hFc := va_free (wc := []) hD hS hA [] rfl
        refine kp_i (va_runS (As := [.long v1, .int v4]) (rest := []) ⟨hx, hb, hml, hown, hts⟩ (c_X3_byteOf l dC dI cyI cyJ cyO H.size v1 v4 _ (okb1 hw)) (va_cwS 2 hts (gdS (fun w h => List.mem_cons_of_mem _ h) q_347 q_348 q_6 q_349) rfl rfl rfl (by decide +kernel) ⟨Nat.le_of_ble_eq_true rfl, Nat.le_of_ble_eq_true rfl⟩) (kpre zN_ok hK va_P0 va_D0 trivial hS hFc) rfl rfl hl.1 rfl (lv_room (Nat.le_of_ble_eq_true rfl)) dX3_add_25 ⟨Nat.le_of_ble_eq_true rfl, Nat.le_of_ble_eq_true rfl⟩) hP hD hS hFc (fun r_9 H locs hw hP hS => ?_)
        try dsimp only at hw
        clear hFc
        refine lv_bipush (v := 32) hx hb dX3_add_28 (by decide) ?_
        refine lv_icmp_lt (tgt := 44) hx hb dX3_add_30 (by decide) (fun c_10 => ?_) (fun c_10 => ?_)
        · replace hw := okT hw c_10
          clear c_10
          refine lv_iconst (v := (-1)) hx hb dX3_add_44 (by decide) ?_
          rw [hQ]
          exact W.iret (v := (-1)) hx hb hr (fun t ht hW => ⟨⟨(-1), (o_length, o_bytes), rfl, okS hw, by rw [ht]; exact hP, va_K.moved hW.alike hK, hD⟩, hS.F ht⟩) hS.2.2 dX3_add_45
        · replace hw := okF hw c_10
          clear c_10
          refine lv_lload_n hx hb dX3_add_33 rfl (lv_at hl 1 rfl) ?_
          refine lv_iload hx hb dX3_add_34 (lv_at hl 3 rfl) ?_
          have hFc := va_free (wc := []) hD hS hA [] rfl
          refine kp_i (va_runS (As := [.long v1, .int v4]) (rest := []) ⟨hx, hb, hml, hown, hts⟩ (c_X3_byteOf l dC dI cyI cyJ cyO H.size v1 v4 _ (okb1 hw)) (va_cwS 2 hts (gdS (fun w h => List.mem_cons_of_mem _ h) q_347 q_348 q_6 q_349) rfl rfl rfl (by decide +kernel) ⟨Nat.le_of_ble_eq_true rfl, Nat.le_of_ble_eq_true rfl⟩) (kpre zN_ok hK va_P0 va_D0 trivial hS hFc) rfl rfl hl.1 rfl (lv_room (Nat.le_of_ble_eq_true rfl)) dX3_add_36 ⟨Nat.le_of_ble_eq_true rfl, Nat.le_of_ble_eq_true rfl⟩) hP hD hS hFc (fun r_11 H locs hw hP hS => ?_)
          try dsimp only at hw
          clear hFc
          refine lv_bipush (v := 126) hx hb dX3_add_39 (by decide) ?_
          refine lv_icmp_le (tgt := 46) hx hb dX3_add_41 (by decide) (fun c_12 => ?_) (fun c_12 => ?_)
          · replace hw := okT hw c_12
            clear c_12
            obtain ⟨x_13, ex_13⟩ : ∃ y : Int32, y = v4 + 1 := ⟨_, rfl⟩
            replace hw := okN ex_13 hw
            refine lv_iinc (v := x_13) (lv' := [(4, .int x_13), (0, .ref h_o), (1, .long v1), (3, .int v3)]) hx hb dX3_add_46 hl (k := 3) rfl (by rw [ex_13]; rfl) (by decide) rfl (fun ls hl => ?_)
            clear ex_13
            refine lv_goto (tgt := 16) hx hb dX3_add_49 (by decide) ?_
            exact ih16 v1 v3 x_13 o_length o_bytes _ _ hP hD hS _ (lv_sub hl [1, 2, 3, 0] rfl) hw
          · replace hw := okF hw c_12
            clear c_12
            refine lv_iconst (v := (-1)) hx hb dX3_add_44 (by decide) ?_
            rw [hQ]
            exact W.iret (v := (-1)) hx hb hr (fun t ht hW => ⟨⟨(-1), (o_length, o_bytes), rfl, okS hw, by rw [ht]; exact hP, va_K.moved hW.alike hK, hD⟩, hS.F ht⟩) hS.2.2 dX3_add_45
  unfold f_X3_add at hw
  have hP : va_P (dC, dI) vwCl (W_X3_add cyI cyJ cyO h_o a_o_bytes a_o_newFar a_o_newTones a_o_newCurrents o_length o_place o_bytes) s.heap := hP
  obtain ⟨H, hH⟩ : ∃ H, H = s.heap := ⟨_, rfl⟩
  obtain ⟨locs, hlo⟩ : ∃ x : List Loc, x = [] := ⟨_, rfl⟩
  have hP : va_P (dC, dI) vwCl (W_X3_add cyI cyJ cyO h_o a_o_bytes a_o_newFar a_o_newTones a_o_newCurrents o_length o_place o_bytes) H := by rw [hH]; exact hP
  have hS : va_S A s.heap H locs := by rw [hH, hlo]; exact hS
  refine kH hH hlo ?_
  clear hH hlo
  refine lv_iload_n hx hb dX3_add_0 rfl (lv_at hl 2 rfl) ?_
  refine lv_iconst (v := 1) hx hb dX3_add_1 (by decide) ?_
  refine lv_icmp_lt (tgt := 11) hx hb dX3_add_2 (by decide) (fun c_14 => ?_) (fun c_14 => ?_)
  · replace hw := okT hw c_14
    clear c_14
    refine lv_iconst (v := (-1)) hx hb dX3_add_11 (by decide) ?_
    rw [hQ]
    exact W.iret (v := (-1)) hx hb hr (fun t ht hW => ⟨⟨(-1), (o_length, o_bytes), rfl, okS hw, by rw [ht]; exact hP, va_K.moved hW.alike hK, hD⟩, hS.F ht⟩) hS.2.2 dX3_add_12
  · replace hw := okF hw c_14
    clear c_14
    refine lv_iload_n hx hb dX3_add_5 rfl (lv_at hl 2 rfl) ?_
    refine lv_bipush (v := 8) hx hb dX3_add_6 (by decide) ?_
    refine lv_icmp_le (tgt := 13) hx hb dX3_add_8 (by decide) (fun c_15 => ?_) (fun c_15 => ?_)
    · replace hw := okT hw c_15
      clear c_15
      refine lv_iconst (v := 0) hx hb dX3_add_13 (by decide) ?_
      refine lv_istore (lv' := [(4, .int 0), (0, .ref h_o), (1, .long x1), (3, .int x2)]) hx hb dX3_add_14 hl (by decide) rfl (fun ls hl => ?_)
      exact w16 FU x1 x2 0 o_length o_bytes _ _ hP hD hS _ (lv_sub hl [1, 2, 3, 0] rfl) hw
    · replace hw := okF hw c_15
      clear c_15
      refine lv_iconst (v := (-1)) hx hb dX3_add_11 (by decide) ?_
      rw [hQ]
      exact W.iret (v := (-1)) hx hb hr (fun t ht hW => ⟨⟨(-1), (o_length, o_bytes), rfl, okS hw, by rw [ht]; exact hP, va_K.moved hW.alike hK, hD⟩, hS.F ht⟩) hS.2.2 dX3_add_12
/-! ===== X3_empty ===== -/
theorem dX3_empty_0 : decode cX3_empty 0 = .ok (.aload_n 0, 1) := by decide +kernel
theorem dX3_empty_1 : decode cX3_empty 1 = .ok (.iconst 0, 1) := by decide +kernel
theorem dX3_empty_2 : decode cX3_empty 2 = .ok (.putfield 15, 3) := by decide +kernel
theorem dX3_empty_5 : decode cX3_empty 5 = .ok (.return_, 1) := by decide +kernel
abbrev W_X3_empty (cyI cyJ cyO : ClassId) (h_o a_o_bytes a_o_newFar a_o_newTones a_o_newCurrents : Nat) (o_length : Int32) (o_place : Int32) : va_W := [(h_o, .inr (3, [.ref a_o_bytes, .int o_length, .int o_place, .ref a_o_newFar, .ref a_o_newTones, .ref a_o_newCurrents]))]
def f_X3_empty (o_length : Int32) : Option (Int32) :=
  some 0
abbrev rm_X3_empty : Room := { frames := 0, cells := 0, slots := 0, locals := 0 }
set_option maxRecDepth 100000 in
set_option maxHeartbeats 4000000 in
theorem c_X3_empty (l : Launch) (dC : Nat → ClassId) (dI : Nat → Nat → Nat) (cyI cyJ cyO : ClassId) (sz : Nat) (h_o a_o_bytes a_o_newFar a_o_newTones a_o_newCurrents : Nat) (o_length : Int32) (o_place : Int32) (post : Int32 → Prop) (hf : okP (f_X3_empty o_length) post) : Cv l (dC, dI) (tyL cyI cyJ cyO) yX3_empty wsX3_empty rm_X3_empty [.ref h_o] sz (W_X3_empty cyI cyJ cyO h_o a_o_bytes a_o_newFar a_o_newTones a_o_newCurrents o_length o_place) zN (fun u => post u) (fun u => (W_X3_empty cyI cyJ cyO h_o a_o_bytes a_o_newFar a_o_newTones a_o_newCurrents u o_place)) := by
  refine Met.ofW (cc := cX3_empty) (maxL := 1) (ret := none) (by decide) rfl ?_
  intro p e s m args below meth c s₁ B hml hv
  obtain ⟨rfl, hsz, hP, hK, hD0, hZ⟩ := hv
  have hx := B.exec
  have hb := B.bytes
  have hr := B.returns
  have hts := atoms_spec (ws := wsX3_empty) B.pre
  have hown : s.vm.findClass RX3 = some m.cls := findClass_of_methodNamed B.named
  have hlocks := B.notSynchronized
  subst hsz
  have hD := hD0.self (sz := s.heap.size)
  generalize hAe : va_A (W_X3_empty cyI cyJ cyO h_o a_o_bytes a_o_newFar a_o_newTones a_o_newCurrents o_length o_place) s.heap.size = A at hD hZ ⊢
  have hA : ∀ q : Nat, s.heap.size ≤ q → A q := fun q h => by rw [← hAe]; exact Or.inr h
  clear hAe hD0
  have hS : va_S A s.heap s.heap [] := va_S.rf
  have hl := lv_entry ([.ref h_o]) (n := 1) (Nat.le_of_ble_eq_true rfl)
  rw [lg_entry_eq]
  generalize (lg_sl ([.ref h_o]) ++ List.replicate (1 - (lg_sl ([.ref h_o])).length) Slot.unset).toArray = ls at hl ⊢
  have hl : lv_has ls 1 [(0, .ref h_o)] := hl
  refine kW (fun Q hQ => ?_)
  have hq0 := hts _ (List.mem_cons_of_mem _ q_232)
  have hi3 : ∀ w ∈ u_ws RX3 TX3 6, w ∈ wsX3_empty := fun w h => List.mem_cons_of_mem _ (inX3 w h)
  have hw := hf
  unfold f_X3_empty at hw
  have hP : va_P (dC, dI) vwCl (W_X3_empty cyI cyJ cyO h_o a_o_bytes a_o_newFar a_o_newTones a_o_newCurrents o_length o_place) s.heap := hP
  obtain ⟨H, hH⟩ : ∃ H, H = s.heap := ⟨_, rfl⟩
  obtain ⟨locs, hlo⟩ : ∃ x : List Loc, x = [] := ⟨_, rfl⟩
  have hP : va_P (dC, dI) vwCl (W_X3_empty cyI cyJ cyO h_o a_o_bytes a_o_newFar a_o_newTones a_o_newCurrents o_length o_place) H := by rw [hH]; exact hP
  have hS : va_S A s.heap H locs := by rw [hH, hlo]; exact hS
  refine kH hH hlo ?_
  clear hH hlo
  refine lv_aload_n hx hb dX3_empty_0 rfl (lv_at hl 0 rfl) ?_
  refine lv_iconst (v := 0) hx hb dX3_empty_1 (by decide) ?_
  refine va_put (D := (dC, dI)) (ci := 3) (v := .int 0) (ty := .int) (C := RX3) (T := TX3) (N := 6) hx hb hts hi3 tyX3 tyX3_ok nmX3 hown hK hP hD hS 0 rfl rfl 1 (by decide) hq0 (fun _ h9 => h9) rfl (by decide +kernel) rfl rfl (Nat.le_of_ble_eq_true rfl) dX3_empty_2 (fun H locs hP hD hS => ?_)
  have hP : va_P (dC, dI) vwCl (W_X3_empty cyI cyJ cyO h_o a_o_bytes a_o_newFar a_o_newTones a_o_newCurrents 0 o_place) H := hP
  have hD : va_D A (W_X3_empty cyI cyJ cyO h_o a_o_bytes a_o_newFar a_o_newTones a_o_newCurrents 0 o_place) := hD
  rw [hQ]
  exact W.vret hx hb hr (fun t ht hW => ⟨⟨0, rfl, okS hw, by rw [ht]; exact hP, va_K.moved hW.alike hK, hD⟩, hS.F ht⟩) hS.2.2 dX3_empty_5
/-! ===== X3_skipBlanks ===== -/
theorem dX3_skipBlanks_0 : decode cX3_skipBlanks 0 = .ok (.aload_n 0, 1) := by decide +kernel
theorem dX3_skipBlanks_1 : decode cX3_skipBlanks 1 = .ok (.getfield 19, 3) := by decide +kernel
theorem dX3_skipBlanks_4 : decode cX3_skipBlanks 4 = .ok (.aload_n 0, 1) := by decide +kernel
theorem dX3_skipBlanks_5 : decode cX3_skipBlanks 5 = .ok (.getfield 15, 3) := by decide +kernel
theorem dX3_skipBlanks_8 : decode cX3_skipBlanks 8 = .ok (.if_icmp .ge 30, 3) := by decide +kernel
theorem dX3_skipBlanks_11 : decode cX3_skipBlanks 11 = .ok (.aload_n 0, 1) := by decide +kernel
theorem dX3_skipBlanks_12 : decode cX3_skipBlanks 12 = .ok (.getfield 11, 3) := by decide +kernel
theorem dX3_skipBlanks_15 : decode cX3_skipBlanks 15 = .ok (.aload_n 0, 1) := by decide +kernel
theorem dX3_skipBlanks_16 : decode cX3_skipBlanks 16 = .ok (.getfield 19, 3) := by decide +kernel
theorem dX3_skipBlanks_19 : decode cX3_skipBlanks 19 = .ok (.iaload, 1) := by decide +kernel
theorem dX3_skipBlanks_20 : decode cX3_skipBlanks 20 = .ok (.bipush 32, 2) := by decide +kernel
theorem dX3_skipBlanks_22 : decode cX3_skipBlanks 22 = .ok (.if_icmp .ne 16, 3) := by decide +kernel
theorem dX3_skipBlanks_25 : decode cX3_skipBlanks 25 = .ok (.aload_n 0, 1) := by decide +kernel
theorem dX3_skipBlanks_26 : decode cX3_skipBlanks 26 = .ok (.dup, 1) := by decide +kernel
theorem dX3_skipBlanks_27 : decode cX3_skipBlanks 27 = .ok (.getfield 19, 3) := by decide +kernel
theorem dX3_skipBlanks_30 : decode cX3_skipBlanks 30 = .ok (.iconst 1, 1) := by decide +kernel
theorem dX3_skipBlanks_31 : decode cX3_skipBlanks 31 = .ok (.iadd, 1) := by decide +kernel
theorem dX3_skipBlanks_32 : decode cX3_skipBlanks 32 = .ok (.putfield 19, 3) := by decide +kernel
theorem dX3_skipBlanks_35 : decode cX3_skipBlanks 35 = .ok (.goto (-35), 3) := by decide +kernel
theorem dX3_skipBlanks_38 : decode cX3_skipBlanks 38 = .ok (.return_, 1) := by decide +kernel
abbrev W_X3_skipBlanks (cyI cyJ cyO : ClassId) (h_o a_o_bytes a_o_newFar a_o_newTones a_o_newCurrents : Nat) (o_length : Int32) (o_place : Int32) (o_bytes : Nat → Int32) : va_W := [(h_o, .inr (3, [.ref a_o_bytes, .int o_length, .int o_place, .ref a_o_newFar, .ref a_o_newTones, .ref a_o_newCurrents])), (a_o_bytes, .inl (cyI, 60, .inl o_bytes))]
def f_X3_skipBlanks_L0b (k0 : Int32 → Int32 → (Nat → Int32) → Option (Int32)) (o_length : Int32) (o_place : Int32) (o_bytes : Nat → Int32) : Option (Int32) :=
  if o_length ≤ o_place then
    some o_place
  else
    chk (¬ (o_place < 0 ∨ 60 ≤ o_place.toNatClampNeg)) <|
    if (o_bytes o_place.toNatClampNeg) = 32 then
      nm (o_place + 1) fun x_1 =>
      k0 o_length x_1 o_bytes
    else
      some o_place
def f_X3_skipBlanks_L0 : Nat → Int32 → Int32 → (Nat → Int32) → Option (Int32)
  | 0 => fun _ _ _ => none
  | n + 1 => f_X3_skipBlanks_L0b (f_X3_skipBlanks_L0 n)
def f_X3_skipBlanks (o_length : Int32) (o_place : Int32) (o_bytes : Nat → Int32) : Option (Int32) :=
  f_X3_skipBlanks_L0 FU o_length o_place o_bytes
abbrev rm_X3_skipBlanks : Room := { frames := 0, cells := 0, slots := 0, locals := 0 }
set_option maxRecDepth 100000 in
set_option maxHeartbeats 4000000 in
theorem c_X3_skipBlanks (l : Launch) (dC : Nat → ClassId) (dI : Nat → Nat → Nat) (cyI cyJ cyO : ClassId) (sz : Nat) (h_o a_o_bytes a_o_newFar a_o_newTones a_o_newCurrents : Nat) (o_length : Int32) (o_place : Int32) (o_bytes : Nat → Int32) (post : Int32 → Prop) (hf : okP (f_X3_skipBlanks o_length o_place o_bytes) post) : Cv l (dC, dI) (tyL cyI cyJ cyO) yX3_skipBlanks wsX3_skipBlanks rm_X3_skipBlanks [.ref h_o] sz (W_X3_skipBlanks cyI cyJ cyO h_o a_o_bytes a_o_newFar a_o_newTones a_o_newCurrents o_length o_place o_bytes) zN (fun u => post u) (fun u => (W_X3_skipBlanks cyI cyJ cyO h_o a_o_bytes a_o_newFar a_o_newTones a_o_newCurrents o_length u o_bytes)) := by
  refine Met.ofW (cc := cX3_skipBlanks) (maxL := 1) (ret := none) (by decide) rfl ?_
  intro p e s m args below meth c s₁ B hml hv
  obtain ⟨rfl, hsz, hP, hK, hD0, hZ⟩ := hv
  have hx := B.exec
  have hb := B.bytes
  have hr := B.returns
  have hts := atoms_spec (ws := wsX3_skipBlanks) B.pre
  have hown : s.vm.findClass RX3 = some m.cls := findClass_of_methodNamed B.named
  have hlocks := B.notSynchronized
  subst hsz
  have hD := hD0.self (sz := s.heap.size)
  generalize hAe : va_A (W_X3_skipBlanks cyI cyJ cyO h_o a_o_bytes a_o_newFar a_o_newTones a_o_newCurrents o_length o_place o_bytes) s.heap.size = A at hD hZ ⊢
  have hA : ∀ q : Nat, s.heap.size ≤ q → A q := fun q h => by rw [← hAe]; exact Or.inr h
  clear hAe hD0
  have hS : va_S A s.heap s.heap [] := va_S.rf
  have hl := lv_entry ([.ref h_o]) (n := 1) (Nat.le_of_ble_eq_true rfl)
  rw [lg_entry_eq]
  generalize (lg_sl ([.ref h_o]) ++ List.replicate (1 - (lg_sl ([.ref h_o])).length) Slot.unset).toArray = ls at hl ⊢
  have hl : lv_has ls 1 [(0, .ref h_o)] := hl
  refine kW (fun Q hQ => ?_)
  have hq0 := hts _ (List.mem_cons_of_mem _ q_233)
  have hi3 : ∀ w ∈ u_ws RX3 TX3 6, w ∈ wsX3_skipBlanks := fun w h => List.mem_cons_of_mem _ (inX3 w h)
  have hq2 := hts _ (List.mem_cons_of_mem _ q_232)
  have hq3 := hts _ (List.mem_cons_of_mem _ q_231)
  have hw := hf
  have w0 : ∀ (n : Nat), ∀ (o_place : Int32) (H : Heap) (locs : List Loc), va_P (dC, dI) vwCl (W_X3_skipBlanks cyI cyJ cyO h_o a_o_bytes a_o_newFar a_o_newTones a_o_newCurrents o_length o_place o_bytes) H → va_D A (W_X3_skipBlanks cyI cyJ cyO h_o a_o_bytes a_o_newFar a_o_newTones a_o_newCurrents o_length o_place o_bytes) → va_S A s.heap H locs → ∀ (ls : Array Slot), lv_has ls 1 [(0, .ref h_o)] → okP (f_X3_skipBlanks_L0 n o_length o_place o_bytes) post → W p l e (headSpec wsX3_skipBlanks rm_X3_skipBlanks).room s m ([.ref h_o] : List Value).toArray below meth c H locs 0 0 Q (F0 m 0 ls []) := by
    intro n
    induction n with
    | zero =>
      intro o_place H locs hP hD hS ls hl hw
      exact (ok0 hw).elim
    | succ n0 ih0 =>
      intro o_place H locs hP hD hS ls hl hw
      replace hw : okP (f_X3_skipBlanks_L0b (f_X3_skipBlanks_L0 n0) o_length o_place o_bytes) post := hw
      unfold f_X3_skipBlanks_L0b at hw
      refine lv_aload_n hx hb dX3_skipBlanks_0 rfl (lv_at hl 0 rfl) ?_
      refine va_get (D := (dC, dI)) (ci := 3) (v := .int o_place) (C := RX3) (T := TX3) (N := 6) hx hb hts hi3 hown hK hP 0 rfl rfl 2 (by decide) hq0 (fun _ h9 => h9) rfl dX3_skipBlanks_1 ?_
      refine lv_aload_n hx hb dX3_skipBlanks_4 rfl (lv_at hl 0 rfl) ?_
      refine va_get (D := (dC, dI)) (ci := 3) (v := .int o_length) (C := RX3) (T := TX3) (N := 6) hx hb hts hi3 hown hK hP 0 rfl rfl 1 (by decide) hq2 (fun _ h9 => h9) rfl dX3_skipBlanks_5 ?_
      refine lv_icmp_ge (tgt := 38) hx hb dX3_skipBlanks_8 (by decide) (fun c_1 => ?_) (fun c_1 => ?_)
      · replace hw := okT hw c_1
        clear c_1
        rw [hQ]
        exact W.vret hx hb hr (fun t ht hW => ⟨⟨o_place, rfl, okS hw, by rw [ht]; exact hP, va_K.moved hW.alike hK, hD⟩, hS.F ht⟩) hS.2.2 dX3_skipBlanks_38
      · replace hw := okF hw c_1
        clear c_1
        refine lv_aload_n hx hb dX3_skipBlanks_11 rfl (lv_at hl 0 rfl) ?_
        refine va_get (D := (dC, dI)) (ci := 3) (v := .ref a_o_bytes) (C := RX3) (T := TX3) (N := 6) hx hb hts hi3 hown hK hP 0 rfl rfl 0 (by decide) hq3 (fun _ h9 => h9) rfl dX3_skipBlanks_12 ?_
        refine lv_aload_n hx hb dX3_skipBlanks_15 rfl (lv_at hl 0 rfl) ?_
        refine va_get (D := (dC, dI)) (ci := 3) (v := .int o_place) (C := RX3) (T := TX3) (N := 6) hx hb hts hi3 hown hK hP 0 rfl rfl 2 (by decide) hq0 (fun _ h9 => h9) rfl dX3_skipBlanks_16 ?_
        obtain ⟨h_2, hw⟩ := okC hw
        refine va_iald (i := o_place) hx hb hK hP 1 0 rfl rfl h_2 dX3_skipBlanks_19 ?_
        refine lv_bipush (v := 32) hx hb dX3_skipBlanks_20 (by decide) ?_
        refine lv_icmp_ne (tgt := 38) hx hb dX3_skipBlanks_22 (by decide) (fun c_3 => ?_) (fun c_3 => ?_)
        · replace hw := okF hw c_3
          clear c_3
          rw [hQ]
          exact W.vret hx hb hr (fun t ht hW => ⟨⟨o_place, rfl, okS hw, by rw [ht]; exact hP, va_K.moved hW.alike hK, hD⟩, hS.F ht⟩) hS.2.2 dX3_skipBlanks_38
        · replace hw := okT hw c_3
          clear c_3
          refine lv_aload_n hx hb dX3_skipBlanks_25 rfl (lv_at hl 0 rfl) ?_
          refine lv_dup hx hb dX3_skipBlanks_26 rfl ?_
          refine va_get (D := (dC, dI)) (ci := 3) (v := .int o_place) (C := RX3) (T := TX3) (N := 6) hx hb hts hi3 hown hK hP 0 rfl rfl 2 (by decide) hq0 (fun _ h9 => h9) rfl dX3_skipBlanks_27 ?_
          refine lv_iconst (v := 1) hx hb dX3_skipBlanks_30 (by decide) ?_
          refine lv_iadd hx hb dX3_skipBlanks_31 ?_
          refine lv_topi (fun x_4 ex_4 => ?_)
          replace hw := okN ex_4 hw
          clear ex_4
          refine va_put (D := (dC, dI)) (ci := 3) (v := .int x_4) (ty := .int) (C := RX3) (T := TX3) (N := 6) hx hb hts hi3 tyX3 tyX3_ok nmX3 hown hK hP hD hS 0 rfl rfl 2 (by decide) hq0 (fun _ h9 => h9) rfl (by decide +kernel) rfl rfl (Nat.le_of_ble_eq_true rfl) dX3_skipBlanks_32 (fun H locs hP hD hS => ?_)
          have hP : va_P (dC, dI) vwCl (W_X3_skipBlanks cyI cyJ cyO h_o a_o_bytes a_o_newFar a_o_newTones a_o_newCurrents o_length x_4 o_bytes) H := hP
          have hD : va_D A (W_X3_skipBlanks cyI cyJ cyO h_o a_o_bytes a_o_newFar a_o_newTones a_o_newCurrents o_length x_4 o_bytes) := hD
          refine lv_goto (tgt := 0) hx hb dX3_skipBlanks_35 (by decide) ?_
          exact ih0 x_4 _ _ hP hD hS _ (lv_sub hl [0] rfl) hw
  unfold f_X3_skipBlanks at hw
  have hP : va_P (dC, dI) vwCl (W_X3_skipBlanks cyI cyJ cyO h_o a_o_bytes a_o_newFar a_o_newTones a_o_newCurrents o_length o_place o_bytes) s.heap := hP
  obtain ⟨H, hH⟩ : ∃ H, H = s.heap := ⟨_, rfl⟩
  obtain ⟨locs, hlo⟩ : ∃ x : List Loc, x = [] := ⟨_, rfl⟩
  have hP : va_P (dC, dI) vwCl (W_X3_skipBlanks cyI cyJ cyO h_o a_o_bytes a_o_newFar a_o_newTones a_o_newCurrents o_length o_place o_bytes) H := by rw [hH]; exact hP
  have hS : va_S A s.heap H locs := by rw [hH, hlo]; exact hS
  refine kH hH hlo ?_
  clear hH hlo
  exact w0 FU o_place _ _ hP hD hS _ (lv_sub hl [0] rfl) hw
/-! ===== X3_isAtEnd ===== -/
theorem dX3_isAtEnd_0 : decode cX3_isAtEnd 0 = .ok (.aload_n 0, 1) := by decide +kernel
theorem dX3_isAtEnd_1 : decode cX3_isAtEnd 1 = .ok (.invokevirtual 63, 3) := by decide +kernel
theorem dX3_isAtEnd_4 : decode cX3_isAtEnd 4 = .ok (.aload_n 0, 1) := by decide +kernel
theorem dX3_isAtEnd_5 : decode cX3_isAtEnd 5 = .ok (.getfield 19, 3) := by decide +kernel
theorem dX3_isAtEnd_8 : decode cX3_isAtEnd 8 = .ok (.aload_n 0, 1) := by decide +kernel
theorem dX3_isAtEnd_9 : decode cX3_isAtEnd 9 = .ok (.getfield 15, 3) := by decide +kernel
theorem dX3_isAtEnd_12 : decode cX3_isAtEnd 12 = .ok (.if_icmp .lt 7, 3) := by decide +kernel
theorem dX3_isAtEnd_15 : decode cX3_isAtEnd 15 = .ok (.iconst 1, 1) := by decide +kernel
theorem dX3_isAtEnd_16 : decode cX3_isAtEnd 16 = .ok (.goto 4, 3) := by decide +kernel
theorem dX3_isAtEnd_19 : decode cX3_isAtEnd 19 = .ok (.iconst 0, 1) := by decide +kernel
theorem dX3_isAtEnd_20 : decode cX3_isAtEnd 20 = .ok (.ireturn, 1) := by decide +kernel
abbrev W_X3_isAtEnd (cyI cyJ cyO : ClassId) (h_o a_o_bytes a_o_newFar a_o_newTones a_o_newCurrents : Nat) (o_length : Int32) (o_place : Int32) (o_bytes : Nat → Int32) : va_W := [(h_o, .inr (3, [.ref a_o_bytes, .int o_length, .int o_place, .ref a_o_newFar, .ref a_o_newTones, .ref a_o_newCurrents])), (a_o_bytes, .inl (cyI, 60, .inl o_bytes))]
def f_X3_isAtEnd (o_length : Int32) (o_place : Int32) (o_bytes : Nat → Int32) : Option (Int32 × Int32) :=
  bd1 (f_X3_skipBlanks o_length o_place o_bytes) fun w_1 =>
  if w_1 < o_length then
    some (0, w_1)
  else
    some (1, w_1)
abbrev rm_X3_isAtEnd : Room := { frames := 1, cells := 0, slots := 0, locals := 20 }
set_option maxRecDepth 100000 in
set_option maxHeartbeats 4000000 in
theorem c_X3_isAtEnd (l : Launch) (dC : Nat → ClassId) (dI : Nat → Nat → Nat) (cyI cyJ cyO : ClassId) (sz : Nat) (h_o a_o_bytes a_o_newFar a_o_newTones a_o_newCurrents : Nat) (o_length : Int32) (o_place : Int32) (o_bytes : Nat → Int32) (post : (Int32 × Int32) → Prop) (hf : okP (f_X3_isAtEnd o_length o_place o_bytes) post) : Ci l (dC, dI) (tyL cyI cyJ cyO) yX3_isAtEnd wsX3_isAtEnd rm_X3_isAtEnd [.ref h_o] sz (W_X3_isAtEnd cyI cyJ cyO h_o a_o_bytes a_o_newFar a_o_newTones a_o_newCurrents o_length o_place o_bytes) zN (fun r u => post (r, u)) (fun u => (W_X3_isAtEnd cyI cyJ cyO h_o a_o_bytes a_o_newFar a_o_newTones a_o_newCurrents o_length u o_bytes)) := by
  refine Met.ofW (cc := cX3_isAtEnd) (maxL := 1) (ret := (some .boolean)) (by decide) rfl ?_
  intro p e s m args below meth c s₁ B hml hv
  obtain ⟨rfl, hsz, hP, hK, hD0, hZ⟩ := hv
  have hx := B.exec
  have hb := B.bytes
  have hr := B.returns
  have hts := atoms_spec (ws := wsX3_isAtEnd) B.pre
  have hown : s.vm.findClass RX3 = some m.cls := findClass_of_methodNamed B.named
  have hlocks := B.notSynchronized
  subst hsz
  have hD := hD0.self (sz := s.heap.size)
  generalize hAe : va_A (W_X3_isAtEnd cyI cyJ cyO h_o a_o_bytes a_o_newFar a_o_newTones a_o_newCurrents o_length o_place o_bytes) s.heap.size = A at hD hZ ⊢
  have hA : ∀ q : Nat, s.heap.size ≤ q → A q := fun q h => by rw [← hAe]; exact Or.inr h
  clear hAe hD0
  have hS : va_S A s.heap s.heap [] := va_S.rf
  have hl := lv_entry ([.ref h_o]) (n := 1) (Nat.le_of_ble_eq_true rfl)
  rw [lg_entry_eq]
  generalize (lg_sl ([.ref h_o]) ++ List.replicate (1 - (lg_sl ([.ref h_o])).length) Slot.unset).toArray = ls at hl ⊢
  have hl : lv_has ls 1 [(0, .ref h_o)] := hl
  refine kW (fun Q hQ => ?_)
  have hq0 := hts _ (List.mem_cons_of_mem _ q_233)
  have hi3 : ∀ w ∈ u_ws RX3 TX3 6, w ∈ wsX3_isAtEnd := fun w h => List.mem_cons_of_mem _ (inX3 w h)
  have hq2 := hts _ (List.mem_cons_of_mem _ q_232)
  have hw := hf
  unfold f_X3_isAtEnd at hw
  have hP : va_P (dC, dI) vwCl (W_X3_isAtEnd cyI cyJ cyO h_o a_o_bytes a_o_newFar a_o_newTones a_o_newCurrents o_length o_place o_bytes) s.heap := hP
  obtain ⟨H, hH⟩ : ∃ H, H = s.heap := ⟨_, rfl⟩
  obtain ⟨locs, hlo⟩ : ∃ x : List Loc, x = [] := ⟨_, rfl⟩
  have hP : va_P (dC, dI) vwCl (W_X3_isAtEnd cyI cyJ cyO h_o a_o_bytes a_o_newFar a_o_newTones a_o_newCurrents o_length o_place o_bytes) H := by rw [hH]; exact hP
  have hS : va_S A s.heap H locs := by rw [hH, hlo]; exact hS
  refine kH hH hlo ?_
  clear hH hlo
  refine lv_aload_n hx hb dX3_isAtEnd_0 rfl (lv_at hl 0 rfl) ?_
  have hPc := hP.sub (ws' := (W_X3_skipBlanks cyI cyJ cyO h_o a_o_bytes a_o_newFar a_o_newTones a_o_newCurrents o_length o_place o_bytes)) [0, 1] rfl
  have hDc := hD.sub (ws' := (W_X3_skipBlanks cyI cyJ cyO h_o a_o_bytes a_o_newFar a_o_newTones a_o_newCurrents o_length o_place o_bytes)) [0, 1] (by decide +kernel) rfl
  have hFc := va_free (wc := (W_X3_skipBlanks cyI cyJ cyO h_o a_o_bytes a_o_newFar a_o_newTones a_o_newCurrents o_length o_place o_bytes)) hD hS hA [0, 1] rfl
  refine kc_v (wr := []) (va_runV (As := []) (rest := []) ⟨hx, hb, hml, hown, hts⟩ (c_X3_skipBlanks l dC dI cyI cyJ cyO H.size h_o a_o_bytes a_o_newFar a_o_newTones a_o_newCurrents o_length o_place o_bytes _ (okb1 hw)) (cwV 0 hts (gdV (fun w h => List.mem_cons_of_mem _ h) q_366 q_368 qs_4 q_6 q_369) rfl rfl rfl (by decide +kernel) ⟨Nat.le_of_ble_eq_true rfl, Nat.le_of_ble_eq_true rfl⟩) ⟨(kpre zN_ok hK hPc hDc trivial hS hFc).1, va_recv hK hP (ci := 3) (q0 := 0) rfl rfl, (kpre zN_ok hK hPc hDc trivial hS hFc).2⟩ rfl rfl hl.1 rfl (lv_room (Nat.le_of_ble_eq_true rfl)) dX3_isAtEnd_1 ⟨Nat.le_of_ble_eq_true rfl, Nat.le_of_ble_eq_true rfl⟩) hP hD hS hFc [0, 1] [] rfl rfl (by decide +kernel) (by decide +kernel) (fun w_1 H locs hw hP hD hS => ?_)
  try dsimp only at hw
  have hP : va_P (dC, dI) vwCl (W_X3_isAtEnd cyI cyJ cyO h_o a_o_bytes a_o_newFar a_o_newTones a_o_newCurrents o_length w_1 o_bytes) H := hP.sub [0, 1] rfl
  have hD : va_D A (W_X3_isAtEnd cyI cyJ cyO h_o a_o_bytes a_o_newFar a_o_newTones a_o_newCurrents o_length w_1 o_bytes) := hD.sub [0, 1] (by decide +kernel) rfl
  clear hPc hDc hFc
  refine lv_aload_n hx hb dX3_isAtEnd_4 rfl (lv_at hl 0 rfl) ?_
  refine va_get (D := (dC, dI)) (ci := 3) (v := .int w_1) (C := RX3) (T := TX3) (N := 6) hx hb hts hi3 hown hK hP 0 rfl rfl 2 (by decide) hq0 (fun _ h9 => h9) rfl dX3_isAtEnd_5 ?_
  refine lv_aload_n hx hb dX3_isAtEnd_8 rfl (lv_at hl 0 rfl) ?_
  refine va_get (D := (dC, dI)) (ci := 3) (v := .int o_length) (C := RX3) (T := TX3) (N := 6) hx hb hts hi3 hown hK hP 0 rfl rfl 1 (by decide) hq2 (fun _ h9 => h9) rfl dX3_isAtEnd_9 ?_
  refine lv_icmp_lt (tgt := 19) hx hb dX3_isAtEnd_12 (by decide) (fun c_2 => ?_) (fun c_2 => ?_)
  · replace hw := okT hw c_2
    clear c_2
    refine lv_iconst (v := 0) hx hb dX3_isAtEnd_19 (by decide) ?_
    rw [hQ]
    exact W.zret (v := 0) hx hb hr (by decide) (fun t ht hW => ⟨⟨0, w_1, rfl, okS hw, by rw [ht]; exact hP, va_K.moved hW.alike hK, hD⟩, hS.F ht⟩) hS.2.2 dX3_isAtEnd_20
  · replace hw := okF hw c_2
    clear c_2
    refine lv_iconst (v := 1) hx hb dX3_isAtEnd_15 (by decide) ?_
    refine lv_goto (tgt := 20) hx hb dX3_isAtEnd_16 (by decide) ?_
    rw [hQ]
    exact W.zret (v := 1) hx hb hr (by decide) (fun t ht hW => ⟨⟨1, w_1, rfl, okS hw, by rw [ht]; exact hP, va_K.moved hW.alike hK, hD⟩, hS.F ht⟩) hS.2.2 dX3_isAtEnd_20
/-! ===== X3_fault ===== -/
theorem dX3_fault_0 : decode cX3_fault 0 = .ok (.aload_n 0, 1) := by decide +kernel
theorem dX3_fault_1 : decode cX3_fault 1 = .ok (.invokevirtual 63, 3) := by decide +kernel
theorem dX3_fault_4 : decode cX3_fault 4 = .ok (.bipush (-20), 2) := by decide +kernel
theorem dX3_fault_6 : decode cX3_fault 6 = .ok (.aload_n 0, 1) := by decide +kernel
theorem dX3_fault_7 : decode cX3_fault 7 = .ok (.getfield 19, 3) := by decide +kernel
theorem dX3_fault_10 : decode cX3_fault 10 = .ok (.isub, 1) := by decide +kernel
theorem dX3_fault_11 : decode cX3_fault 11 = .ok (.ireturn, 1) := by decide +kernel
abbrev W_X3_fault (cyI cyJ cyO : ClassId) (h_o a_o_bytes a_o_newFar a_o_newTones a_o_newCurrents : Nat) (o_length : Int32) (o_place : Int32) (o_bytes : Nat → Int32) : va_W := [(h_o, .inr (3, [.ref a_o_bytes, .int o_length, .int o_place, .ref a_o_newFar, .ref a_o_newTones, .ref a_o_newCurrents])), (a_o_bytes, .inl (cyI, 60, .inl o_bytes))]
def f_X3_fault (o_length : Int32) (o_place : Int32) (o_bytes : Nat → Int32) : Option (Int32 × Int32) :=
  bd1 (f_X3_skipBlanks o_length o_place o_bytes) fun w_1 =>
  some ((-20) - w_1, w_1)
abbrev rm_X3_fault : Room := { frames := 1, cells := 0, slots := 0, locals := 20 }
set_option maxRecDepth 100000 in
set_option maxHeartbeats 4000000 in
theorem c_X3_fault (l : Launch) (dC : Nat → ClassId) (dI : Nat → Nat → Nat) (cyI cyJ cyO : ClassId) (sz : Nat) (h_o a_o_bytes a_o_newFar a_o_newTones a_o_newCurrents : Nat) (o_length : Int32) (o_place : Int32) (o_bytes : Nat → Int32) (post : (Int32 × Int32) → Prop) (hf : okP (f_X3_fault o_length o_place o_bytes) post) : Ci l (dC, dI) (tyL cyI cyJ cyO) yX3_fault wsX3_fault rm_X3_fault [.ref h_o] sz (W_X3_fault cyI cyJ cyO h_o a_o_bytes a_o_newFar a_o_newTones a_o_newCurrents o_length o_place o_bytes) zN (fun r u => post (r, u)) (fun u => (W_X3_fault cyI cyJ cyO h_o a_o_bytes a_o_newFar a_o_newTones a_o_newCurrents o_length u o_bytes)) := by
  refine Met.ofW (cc := cX3_fault) (maxL := 1) (ret := (some .int)) (by decide) rfl ?_
  intro p e s m args below meth c s₁ B hml hv
  obtain ⟨rfl, hsz, hP, hK, hD0, hZ⟩ := hv
  have hx := B.exec
  have hb := B.bytes
  have hr := B.returns
  have hts := atoms_spec (ws := wsX3_fault) B.pre
  have hown : s.vm.findClass RX3 = some m.cls := findClass_of_methodNamed B.named
  have hlocks := B.notSynchronized
  subst hsz
  have hD := hD0.self (sz := s.heap.size)
  generalize hAe : va_A (W_X3_fault cyI cyJ cyO h_o a_o_bytes a_o_newFar a_o_newTones a_o_newCurrents o_length o_place o_bytes) s.heap.size = A at hD hZ ⊢
  have hA : ∀ q : Nat, s.heap.size ≤ q → A q := fun q h => by rw [← hAe]; exact Or.inr h
  clear hAe hD0
  have hS : va_S A s.heap s.heap [] := va_S.rf
  have hl := lv_entry ([.ref h_o]) (n := 1) (Nat.le_of_ble_eq_true rfl)
  rw [lg_entry_eq]
  generalize (lg_sl ([.ref h_o]) ++ List.replicate (1 - (lg_sl ([.ref h_o])).length) Slot.unset).toArray = ls at hl ⊢
  have hl : lv_has ls 1 [(0, .ref h_o)] := hl
  refine kW (fun Q hQ => ?_)
  have hq0 := hts _ (List.mem_cons_of_mem _ q_233)
  have hi3 : ∀ w ∈ u_ws RX3 TX3 6, w ∈ wsX3_fault := fun w h => List.mem_cons_of_mem _ (inX3 w h)
  have hw := hf
  unfold f_X3_fault at hw
  have hP : va_P (dC, dI) vwCl (W_X3_fault cyI cyJ cyO h_o a_o_bytes a_o_newFar a_o_newTones a_o_newCurrents o_length o_place o_bytes) s.heap := hP
  obtain ⟨H, hH⟩ : ∃ H, H = s.heap := ⟨_, rfl⟩
  obtain ⟨locs, hlo⟩ : ∃ x : List Loc, x = [] := ⟨_, rfl⟩
  have hP : va_P (dC, dI) vwCl (W_X3_fault cyI cyJ cyO h_o a_o_bytes a_o_newFar a_o_newTones a_o_newCurrents o_length o_place o_bytes) H := by rw [hH]; exact hP
  have hS : va_S A s.heap H locs := by rw [hH, hlo]; exact hS
  refine kH hH hlo ?_
  clear hH hlo
  refine lv_aload_n hx hb dX3_fault_0 rfl (lv_at hl 0 rfl) ?_
  have hPc := hP.sub (ws' := (W_X3_skipBlanks cyI cyJ cyO h_o a_o_bytes a_o_newFar a_o_newTones a_o_newCurrents o_length o_place o_bytes)) [0, 1] rfl
  have hDc := hD.sub (ws' := (W_X3_skipBlanks cyI cyJ cyO h_o a_o_bytes a_o_newFar a_o_newTones a_o_newCurrents o_length o_place o_bytes)) [0, 1] (by decide +kernel) rfl
  have hFc := va_free (wc := (W_X3_skipBlanks cyI cyJ cyO h_o a_o_bytes a_o_newFar a_o_newTones a_o_newCurrents o_length o_place o_bytes)) hD hS hA [0, 1] rfl
  refine kc_v (wr := []) (va_runV (As := []) (rest := []) ⟨hx, hb, hml, hown, hts⟩ (c_X3_skipBlanks l dC dI cyI cyJ cyO H.size h_o a_o_bytes a_o_newFar a_o_newTones a_o_newCurrents o_length o_place o_bytes _ (okb1 hw)) (cwV 0 hts (gdV (fun w h => List.mem_cons_of_mem _ h) q_366 q_368 qs_4 q_6 q_369) rfl rfl rfl (by decide +kernel) ⟨Nat.le_of_ble_eq_true rfl, Nat.le_of_ble_eq_true rfl⟩) ⟨(kpre zN_ok hK hPc hDc trivial hS hFc).1, va_recv hK hP (ci := 3) (q0 := 0) rfl rfl, (kpre zN_ok hK hPc hDc trivial hS hFc).2⟩ rfl rfl hl.1 rfl (lv_room (Nat.le_of_ble_eq_true rfl)) dX3_fault_1 ⟨Nat.le_of_ble_eq_true rfl, Nat.le_of_ble_eq_true rfl⟩) hP hD hS hFc [0, 1] [] rfl rfl (by decide +kernel) (by decide +kernel) (fun w_1 H locs hw hP hD hS => ?_)
  try dsimp only at hw
  have hP : va_P (dC, dI) vwCl (W_X3_fault cyI cyJ cyO h_o a_o_bytes a_o_newFar a_o_newTones a_o_newCurrents o_length w_1 o_bytes) H := hP.sub [0, 1] rfl
  have hD : va_D A (W_X3_fault cyI cyJ cyO h_o a_o_bytes a_o_newFar a_o_newTones a_o_newCurrents o_length w_1 o_bytes) := hD.sub [0, 1] (by decide +kernel) rfl
  clear hPc hDc hFc
  refine lv_bipush (v := (-20)) hx hb dX3_fault_4 (by decide) ?_
  refine lv_aload_n hx hb dX3_fault_6 rfl (lv_at hl 0 rfl) ?_
  refine va_get (D := (dC, dI)) (ci := 3) (v := .int w_1) (C := RX3) (T := TX3) (N := 6) hx hb hts hi3 hown hK hP 0 rfl rfl 2 (by decide) hq0 (fun _ h9 => h9) rfl dX3_fault_7 ?_
  refine lv_isub hx hb dX3_fault_10 ?_
  rw [hQ]
  exact W.iret (v := (-20) - w_1) hx hb hr (fun t ht hW => ⟨⟨(-20) - w_1, w_1, rfl, okS hw, by rw [ht]; exact hP, va_K.moved hW.alike hK, hD⟩, hS.F ht⟩) hS.2.2 dX3_fault_11
/-! ===== X3_passes ===== -/
theorem dX3_passes_0 : decode cX3_passes 0 = .ok (.aload_n 0, 1) := by decide +kernel
theorem dX3_passes_1 : decode cX3_passes 1 = .ok (.invokevirtual 53, 3) := by decide +kernel
theorem dX3_passes_4 : decode cX3_passes 4 = .ok (.ifCond .ne 16, 3) := by decide +kernel
theorem dX3_passes_7 : decode cX3_passes 7 = .ok (.aload_n 0, 1) := by decide +kernel
theorem dX3_passes_8 : decode cX3_passes 8 = .ok (.getfield 11, 3) := by decide +kernel
theorem dX3_passes_11 : decode cX3_passes 11 = .ok (.aload_n 0, 1) := by decide +kernel
theorem dX3_passes_12 : decode cX3_passes 12 = .ok (.getfield 19, 3) := by decide +kernel
theorem dX3_passes_15 : decode cX3_passes 15 = .ok (.iaload, 1) := by decide +kernel
theorem dX3_passes_16 : decode cX3_passes 16 = .ok (.iload_n 1, 1) := by decide +kernel
theorem dX3_passes_17 : decode cX3_passes 17 = .ok (.if_icmp .eq 5, 3) := by decide +kernel
theorem dX3_passes_20 : decode cX3_passes 20 = .ok (.iconst 0, 1) := by decide +kernel
theorem dX3_passes_21 : decode cX3_passes 21 = .ok (.ireturn, 1) := by decide +kernel
theorem dX3_passes_22 : decode cX3_passes 22 = .ok (.aload_n 0, 1) := by decide +kernel
theorem dX3_passes_23 : decode cX3_passes 23 = .ok (.dup, 1) := by decide +kernel
theorem dX3_passes_24 : decode cX3_passes 24 = .ok (.getfield 19, 3) := by decide +kernel
theorem dX3_passes_27 : decode cX3_passes 27 = .ok (.iconst 1, 1) := by decide +kernel
theorem dX3_passes_28 : decode cX3_passes 28 = .ok (.iadd, 1) := by decide +kernel
theorem dX3_passes_29 : decode cX3_passes 29 = .ok (.putfield 19, 3) := by decide +kernel
theorem dX3_passes_32 : decode cX3_passes 32 = .ok (.iconst 1, 1) := by decide +kernel
theorem dX3_passes_33 : decode cX3_passes 33 = .ok (.ireturn, 1) := by decide +kernel
abbrev W_X3_passes (cyI cyJ cyO : ClassId) (h_o a_o_bytes a_o_newFar a_o_newTones a_o_newCurrents : Nat) (o_length : Int32) (o_place : Int32) (o_bytes : Nat → Int32) : va_W := [(h_o, .inr (3, [.ref a_o_bytes, .int o_length, .int o_place, .ref a_o_newFar, .ref a_o_newTones, .ref a_o_newCurrents])), (a_o_bytes, .inl (cyI, 60, .inl o_bytes))]
def f_X3_passes (x1 : Int32) (o_length : Int32) (o_place : Int32) (o_bytes : Nat → Int32) : Option (Int32 × Int32) :=
  bd2 (f_X3_isAtEnd o_length o_place o_bytes) fun r_1 w_2 =>
  if r_1 = 0 then
    chk (¬ (w_2 < 0 ∨ 60 ≤ w_2.toNatClampNeg)) <|
    if (o_bytes w_2.toNatClampNeg) = x1 then
      nm (w_2 + 1) fun x_3 =>
      some (1, x_3)
    else
      some (0, w_2)
  else
    some (0, w_2)
abbrev rm_X3_passes : Room := { frames := 2, cells := 0, slots := 0, locals := 40 }
set_option maxRecDepth 100000 in
set_option maxHeartbeats 4000000 in
theorem c_X3_passes (l : Launch) (dC : Nat → ClassId) (dI : Nat → Nat → Nat) (cyI cyJ cyO : ClassId) (sz : Nat) (h_o a_o_bytes a_o_newFar a_o_newTones a_o_newCurrents : Nat) (o_length : Int32) (o_place : Int32) (o_bytes : Nat → Int32) (x1 : Int32) (post : (Int32 × Int32) → Prop) (hf : okP (f_X3_passes x1 o_length o_place o_bytes) post) : Ci l (dC, dI) (tyL cyI cyJ cyO) yX3_passes wsX3_passes rm_X3_passes [.ref h_o, .int x1] sz (W_X3_passes cyI cyJ cyO h_o a_o_bytes a_o_newFar a_o_newTones a_o_newCurrents o_length o_place o_bytes) zN (fun r u => post (r, u)) (fun u => (W_X3_passes cyI cyJ cyO h_o a_o_bytes a_o_newFar a_o_newTones a_o_newCurrents o_length u o_bytes)) := by
  refine Met.ofW (cc := cX3_passes) (maxL := 2) (ret := (some .boolean)) (by decide) rfl ?_
  intro p e s m args below meth c s₁ B hml hv
  obtain ⟨rfl, hsz, hP, hK, hD0, hZ⟩ := hv
  have hx := B.exec
  have hb := B.bytes
  have hr := B.returns
  have hts := atoms_spec (ws := wsX3_passes) B.pre
  have hown : s.vm.findClass RX3 = some m.cls := findClass_of_methodNamed B.named
  have hlocks := B.notSynchronized
  subst hsz
  have hD := hD0.self (sz := s.heap.size)
  generalize hAe : va_A (W_X3_passes cyI cyJ cyO h_o a_o_bytes a_o_newFar a_o_newTones a_o_newCurrents o_length o_place o_bytes) s.heap.size = A at hD hZ ⊢
  have hA : ∀ q : Nat, s.heap.size ≤ q → A q := fun q h => by rw [← hAe]; exact Or.inr h
  clear hAe hD0
  have hS : va_S A s.heap s.heap [] := va_S.rf
  have hl := lv_entry ([.ref h_o, .int x1]) (n := 2) (Nat.le_of_ble_eq_true rfl)
  rw [lg_entry_eq]
  generalize (lg_sl ([.ref h_o, .int x1]) ++ List.replicate (2 - (lg_sl ([.ref h_o, .int x1])).length) Slot.unset).toArray = ls at hl ⊢
  have hl : lv_has ls 2 [(0, .ref h_o), (1, .int x1)] := hl
  refine kW (fun Q hQ => ?_)
  have hq0 := hts _ (List.mem_cons_of_mem _ q_231)
  have hi3 : ∀ w ∈ u_ws RX3 TX3 6, w ∈ wsX3_passes := fun w h => List.mem_cons_of_mem _ (inX3 w h)
  have hq2 := hts _ (List.mem_cons_of_mem _ q_233)
  have hw := hf
  unfold f_X3_passes at hw
  have hP : va_P (dC, dI) vwCl (W_X3_passes cyI cyJ cyO h_o a_o_bytes a_o_newFar a_o_newTones a_o_newCurrents o_length o_place o_bytes) s.heap := hP
  obtain ⟨H, hH⟩ : ∃ H, H = s.heap := ⟨_, rfl⟩
  obtain ⟨locs, hlo⟩ : ∃ x : List Loc, x = [] := ⟨_, rfl⟩
  have hP : va_P (dC, dI) vwCl (W_X3_passes cyI cyJ cyO h_o a_o_bytes a_o_newFar a_o_newTones a_o_newCurrents o_length o_place o_bytes) H := by rw [hH]; exact hP
  have hS : va_S A s.heap H locs := by rw [hH, hlo]; exact hS
  refine kH hH hlo ?_
  clear hH hlo
  refine lv_aload_n hx hb dX3_passes_0 rfl (lv_at hl 0 rfl) ?_
  have hPc := hP.sub (ws' := (W_X3_isAtEnd cyI cyJ cyO h_o a_o_bytes a_o_newFar a_o_newTones a_o_newCurrents o_length o_place o_bytes)) [0, 1] rfl
  have hDc := hD.sub (ws' := (W_X3_isAtEnd cyI cyJ cyO h_o a_o_bytes a_o_newFar a_o_newTones a_o_newCurrents o_length o_place o_bytes)) [0, 1] (by decide +kernel) rfl
  have hFc := va_free (wc := (W_X3_isAtEnd cyI cyJ cyO h_o a_o_bytes a_o_newFar a_o_newTones a_o_newCurrents o_length o_place o_bytes)) hD hS hA [0, 1] rfl
  refine kc_i (wr := []) (va_runV (As := []) (rest := []) ⟨hx, hb, hml, hown, hts⟩ (c_X3_isAtEnd l dC dI cyI cyJ cyO H.size h_o a_o_bytes a_o_newFar a_o_newTones a_o_newCurrents o_length o_place o_bytes _ (okb2 hw)) (cwV 0 hts (gdV (fun w h => List.mem_cons_of_mem _ h) q_377 q_379 qs_6 q_6 q_380) rfl rfl rfl (by decide +kernel) ⟨Nat.le_of_ble_eq_true rfl, Nat.le_of_ble_eq_true rfl⟩) ⟨(kpre zN_ok hK hPc hDc trivial hS hFc).1, va_recv hK hP (ci := 3) (q0 := 0) rfl rfl, (kpre zN_ok hK hPc hDc trivial hS hFc).2⟩ rfl rfl hl.1 rfl (lv_room (Nat.le_of_ble_eq_true rfl)) dX3_passes_1 ⟨Nat.le_of_ble_eq_true rfl, Nat.le_of_ble_eq_true rfl⟩) hP hD hS hFc [0, 1] [] rfl rfl (by decide +kernel) (by decide +kernel) (fun r_1 w_2 H locs hw hP hD hS => ?_)
  try dsimp only at hw
  have hP : va_P (dC, dI) vwCl (W_X3_passes cyI cyJ cyO h_o a_o_bytes a_o_newFar a_o_newTones a_o_newCurrents o_length w_2 o_bytes) H := hP.sub [0, 1] rfl
  have hD : va_D A (W_X3_passes cyI cyJ cyO h_o a_o_bytes a_o_newFar a_o_newTones a_o_newCurrents o_length w_2 o_bytes) := hD.sub [0, 1] (by decide +kernel) rfl
  clear hPc hDc hFc
  refine lv_if_ne (tgt := 20) hx hb dX3_passes_4 (by decide) (fun c_3 => ?_) (fun c_3 => ?_)
  · replace hw := okF hw c_3
    clear c_3
    refine lv_iconst (v := 0) hx hb dX3_passes_20 (by decide) ?_
    rw [hQ]
    exact W.zret (v := 0) hx hb hr (by decide) (fun t ht hW => ⟨⟨0, w_2, rfl, okS hw, by rw [ht]; exact hP, va_K.moved hW.alike hK, hD⟩, hS.F ht⟩) hS.2.2 dX3_passes_21
  · replace hw := okT hw c_3
    clear c_3
    refine lv_aload_n hx hb dX3_passes_7 rfl (lv_at hl 0 rfl) ?_
    refine va_get (D := (dC, dI)) (ci := 3) (v := .ref a_o_bytes) (C := RX3) (T := TX3) (N := 6) hx hb hts hi3 hown hK hP 0 rfl rfl 0 (by decide) hq0 (fun _ h9 => h9) rfl dX3_passes_8 ?_
    refine lv_aload_n hx hb dX3_passes_11 rfl (lv_at hl 0 rfl) ?_
    refine va_get (D := (dC, dI)) (ci := 3) (v := .int w_2) (C := RX3) (T := TX3) (N := 6) hx hb hts hi3 hown hK hP 0 rfl rfl 2 (by decide) hq2 (fun _ h9 => h9) rfl dX3_passes_12 ?_
    obtain ⟨h_4, hw⟩ := okC hw
    refine va_iald (i := w_2) hx hb hK hP 1 0 rfl rfl h_4 dX3_passes_15 ?_
    refine lv_iload_n hx hb dX3_passes_16 rfl (lv_at hl 1 rfl) ?_
    refine lv_icmp_eq (tgt := 22) hx hb dX3_passes_17 (by decide) (fun c_5 => ?_) (fun c_5 => ?_)
    · replace hw := okT hw c_5
      clear c_5
      refine lv_aload_n hx hb dX3_passes_22 rfl (lv_at hl 0 rfl) ?_
      refine lv_dup hx hb dX3_passes_23 rfl ?_
      refine va_get (D := (dC, dI)) (ci := 3) (v := .int w_2) (C := RX3) (T := TX3) (N := 6) hx hb hts hi3 hown hK hP 0 rfl rfl 2 (by decide) hq2 (fun _ h9 => h9) rfl dX3_passes_24 ?_
      refine lv_iconst (v := 1) hx hb dX3_passes_27 (by decide) ?_
      refine lv_iadd hx hb dX3_passes_28 ?_
      refine lv_topi (fun x_6 ex_6 => ?_)
      replace hw := okN ex_6 hw
      clear ex_6
      refine va_put (D := (dC, dI)) (ci := 3) (v := .int x_6) (ty := .int) (C := RX3) (T := TX3) (N := 6) hx hb hts hi3 tyX3 tyX3_ok nmX3 hown hK hP hD hS 0 rfl rfl 2 (by decide) hq2 (fun _ h9 => h9) rfl (by decide +kernel) rfl rfl (Nat.le_of_ble_eq_true rfl) dX3_passes_29 (fun H locs hP hD hS => ?_)
      have hP : va_P (dC, dI) vwCl (W_X3_passes cyI cyJ cyO h_o a_o_bytes a_o_newFar a_o_newTones a_o_newCurrents o_length x_6 o_bytes) H := hP
      have hD : va_D A (W_X3_passes cyI cyJ cyO h_o a_o_bytes a_o_newFar a_o_newTones a_o_newCurrents o_length x_6 o_bytes) := hD
      refine lv_iconst (v := 1) hx hb dX3_passes_32 (by decide) ?_
      rw [hQ]
      exact W.zret (v := 1) hx hb hr (by decide) (fun t ht hW => ⟨⟨1, x_6, rfl, okS hw, by rw [ht]; exact hP, va_K.moved hW.alike hK, hD⟩, hS.F ht⟩) hS.2.2 dX3_passes_33
    · replace hw := okF hw c_5
      clear c_5
      refine lv_iconst (v := 0) hx hb dX3_passes_20 (by decide) ?_
      rw [hQ]
      exact W.zret (v := 0) hx hb hr (by decide) (fun t ht hW => ⟨⟨0, w_2, rfl, okS hw, by rw [ht]; exact hP, va_K.moved hW.alike hK, hD⟩, hS.F ht⟩) hS.2.2 dX3_passes_21
/-! ===== X3_number ===== -/
theorem dX3_number_0 : decode cX3_number 0 = .ok (.aload_n 0, 1) := by decide +kernel
theorem dX3_number_1 : decode cX3_number 1 = .ok (.invokevirtual 63, 3) := by decide +kernel
theorem dX3_number_4 : decode cX3_number 4 = .ok (.aload_n 0, 1) := by decide +kernel
theorem dX3_number_5 : decode cX3_number 5 = .ok (.getfield 19, 3) := by decide +kernel
theorem dX3_number_8 : decode cX3_number 8 = .ok (.istore_n 3, 1) := by decide +kernel
theorem dX3_number_9 : decode cX3_number 9 = .ok (.iconst 0, 1) := by decide +kernel
theorem dX3_number_10 : decode cX3_number 10 = .ok (.istore 4, 2) := by decide +kernel
theorem dX3_number_12 : decode cX3_number 12 = .ok (.aload_n 0, 1) := by decide +kernel
theorem dX3_number_13 : decode cX3_number 13 = .ok (.getfield 19, 3) := by decide +kernel
theorem dX3_number_16 : decode cX3_number 16 = .ok (.aload_n 0, 1) := by decide +kernel
theorem dX3_number_17 : decode cX3_number 17 = .ok (.getfield 15, 3) := by decide +kernel
theorem dX3_number_20 : decode cX3_number 20 = .ok (.if_icmp .ge 70, 3) := by decide +kernel
theorem dX3_number_23 : decode cX3_number 23 = .ok (.aload_n 0, 1) := by decide +kernel
theorem dX3_number_24 : decode cX3_number 24 = .ok (.getfield 11, 3) := by decide +kernel
theorem dX3_number_27 : decode cX3_number 27 = .ok (.aload_n 0, 1) := by decide +kernel
theorem dX3_number_28 : decode cX3_number 28 = .ok (.getfield 19, 3) := by decide +kernel
theorem dX3_number_31 : decode cX3_number 31 = .ok (.iaload, 1) := by decide +kernel
theorem dX3_number_32 : decode cX3_number 32 = .ok (.bipush 48, 2) := by decide +kernel
theorem dX3_number_34 : decode cX3_number 34 = .ok (.if_icmp .lt 56, 3) := by decide +kernel
theorem dX3_number_37 : decode cX3_number 37 = .ok (.aload_n 0, 1) := by decide +kernel
theorem dX3_number_38 : decode cX3_number 38 = .ok (.getfield 11, 3) := by decide +kernel
theorem dX3_number_41 : decode cX3_number 41 = .ok (.aload_n 0, 1) := by decide +kernel
theorem dX3_number_42 : decode cX3_number 42 = .ok (.getfield 19, 3) := by decide +kernel
theorem dX3_number_45 : decode cX3_number 45 = .ok (.iaload, 1) := by decide +kernel
theorem dX3_number_46 : decode cX3_number 46 = .ok (.bipush 57, 2) := by decide +kernel
theorem dX3_number_48 : decode cX3_number 48 = .ok (.if_icmp .gt 42, 3) := by decide +kernel
theorem dX3_number_51 : decode cX3_number 51 = .ok (.bipush 10, 2) := by decide +kernel
theorem dX3_number_53 : decode cX3_number 53 = .ok (.iload 4, 2) := by decide +kernel
theorem dX3_number_55 : decode cX3_number 55 = .ok (.imul, 1) := by decide +kernel
theorem dX3_number_56 : decode cX3_number 56 = .ok (.aload_n 0, 1) := by decide +kernel
theorem dX3_number_57 : decode cX3_number 57 = .ok (.getfield 11, 3) := by decide +kernel
theorem dX3_number_60 : decode cX3_number 60 = .ok (.aload_n 0, 1) := by decide +kernel
theorem dX3_number_61 : decode cX3_number 61 = .ok (.getfield 19, 3) := by decide +kernel
theorem dX3_number_64 : decode cX3_number 64 = .ok (.iaload, 1) := by decide +kernel
theorem dX3_number_65 : decode cX3_number 65 = .ok (.iadd, 1) := by decide +kernel
theorem dX3_number_66 : decode cX3_number 66 = .ok (.bipush 48, 2) := by decide +kernel
theorem dX3_number_68 : decode cX3_number 68 = .ok (.isub, 1) := by decide +kernel
theorem dX3_number_69 : decode cX3_number 69 = .ok (.sipush 1000, 3) := by decide +kernel
theorem dX3_number_72 : decode cX3_number 72 = .ok (.invokestatic 66, 3) := by decide +kernel
theorem dX3_number_75 : decode cX3_number 75 = .ok (.istore 4, 2) := by decide +kernel
theorem dX3_number_77 : decode cX3_number 77 = .ok (.aload_n 0, 1) := by decide +kernel
theorem dX3_number_78 : decode cX3_number 78 = .ok (.dup, 1) := by decide +kernel
theorem dX3_number_79 : decode cX3_number 79 = .ok (.getfield 19, 3) := by decide +kernel
theorem dX3_number_82 : decode cX3_number 82 = .ok (.iconst 1, 1) := by decide +kernel
theorem dX3_number_83 : decode cX3_number 83 = .ok (.iadd, 1) := by decide +kernel
theorem dX3_number_84 : decode cX3_number 84 = .ok (.putfield 19, 3) := by decide +kernel
theorem dX3_number_87 : decode cX3_number 87 = .ok (.goto (-75), 3) := by decide +kernel
theorem dX3_number_90 : decode cX3_number 90 = .ok (.aload_n 0, 1) := by decide +kernel
theorem dX3_number_91 : decode cX3_number 91 = .ok (.getfield 19, 3) := by decide +kernel
theorem dX3_number_94 : decode cX3_number 94 = .ok (.iload_n 3, 1) := by decide +kernel
theorem dX3_number_95 : decode cX3_number 95 = .ok (.if_icmp .le 18, 3) := by decide +kernel
theorem dX3_number_98 : decode cX3_number 98 = .ok (.iload 4, 2) := by decide +kernel
theorem dX3_number_100 : decode cX3_number 100 = .ok (.iload_n 1, 1) := by decide +kernel
theorem dX3_number_101 : decode cX3_number 101 = .ok (.if_icmp .lt 12, 3) := by decide +kernel
theorem dX3_number_104 : decode cX3_number 104 = .ok (.iload 4, 2) := by decide +kernel
theorem dX3_number_106 : decode cX3_number 106 = .ok (.iload_n 2, 1) := by decide +kernel
theorem dX3_number_107 : decode cX3_number 107 = .ok (.if_icmp .gt 6, 3) := by decide +kernel
theorem dX3_number_110 : decode cX3_number 110 = .ok (.iload 4, 2) := by decide +kernel
theorem dX3_number_112 : decode cX3_number 112 = .ok (.ireturn, 1) := by decide +kernel
theorem dX3_number_113 : decode cX3_number 113 = .ok (.aload_n 0, 1) := by decide +kernel
theorem dX3_number_114 : decode cX3_number 114 = .ok (.iload_n 3, 1) := by decide +kernel
theorem dX3_number_115 : decode cX3_number 115 = .ok (.putfield 19, 3) := by decide +kernel
theorem dX3_number_118 : decode cX3_number 118 = .ok (.iconst (-1), 1) := by decide +kernel
theorem dX3_number_119 : decode cX3_number 119 = .ok (.ireturn, 1) := by decide +kernel
abbrev W_X3_number (cyI cyJ cyO : ClassId) (h_o a_o_bytes a_o_newFar a_o_newTones a_o_newCurrents : Nat) (o_length : Int32) (o_place : Int32) (o_bytes : Nat → Int32) : va_W := [(h_o, .inr (3, [.ref a_o_bytes, .int o_length, .int o_place, .ref a_o_newFar, .ref a_o_newTones, .ref a_o_newCurrents])), (a_o_bytes, .inl (cyI, 60, .inl o_bytes))]
def f_X3_number_B113 (v3 : Int32) (o_length : Int32) (o_place : Int32) (o_bytes : Nat → Int32) : Option (Int32 × Int32) :=
  some ((-1), v3)
def f_X3_number_B90 (v1 : Int32) (v2 : Int32) (v3 : Int32) (v4 : Int32) (o_length : Int32) (o_place : Int32) (o_bytes : Nat → Int32) : Option (Int32 × Int32) :=
  if o_place ≤ v3 then
    f_X3_number_B113 v3 o_length o_place o_bytes
  else
    if v4 < v1 then
      f_X3_number_B113 v3 o_length o_place o_bytes
    else
      if v2 < v4 then
        f_X3_number_B113 v3 o_length o_place o_bytes
      else
        some (v4, o_place)
def f_X3_number_L12b (k12 : Int32 → Int32 → Int32 → Int32 → Int32 → Int32 → (Nat → Int32) → Option (Int32 × Int32)) (v1 : Int32) (v2 : Int32) (v3 : Int32) (v4 : Int32) (o_length : Int32) (o_place : Int32) (o_bytes : Nat → Int32) : Option (Int32 × Int32) :=
  if o_length ≤ o_place then
    f_X3_number_B90 v1 v2 v3 v4 o_length o_place o_bytes
  else
    chk (¬ (o_place < 0 ∨ 60 ≤ o_place.toNatClampNeg)) <|
    if (o_bytes o_place.toNatClampNeg) < 48 then
      f_X3_number_B90 v1 v2 v3 v4 o_length o_place o_bytes
    else
      chk (¬ (o_place < 0 ∨ 60 ≤ o_place.toNatClampNeg)) <|
      if 57 < (o_bytes o_place.toNatClampNeg) then
        f_X3_number_B90 v1 v2 v3 v4 o_length o_place o_bytes
      else
        chk (¬ (o_place < 0 ∨ 60 ≤ o_place.toNatClampNeg)) <|
        nm (if 1000 < (((10 * v4) + (o_bytes o_place.toNatClampNeg)) - 48) then 1000 else (((10 * v4) + (o_bytes o_place.toNatClampNeg)) - 48)) fun x_1 =>
        nm (o_place + 1) fun x_2 =>
        k12 v1 v2 v3 x_1 o_length x_2 o_bytes
def f_X3_number_L12 : Nat → Int32 → Int32 → Int32 → Int32 → Int32 → Int32 → (Nat → Int32) → Option (Int32 × Int32)
  | 0 => fun _ _ _ _ _ _ _ => none
  | n + 1 => f_X3_number_L12b (f_X3_number_L12 n)
def f_X3_number (x1 : Int32) (x2 : Int32) (o_length : Int32) (o_place : Int32) (o_bytes : Nat → Int32) : Option (Int32 × Int32) :=
  bd1 (f_X3_skipBlanks o_length o_place o_bytes) fun w_3 =>
  f_X3_number_L12 FU x1 x2 w_3 0 o_length w_3 o_bytes
abbrev rm_X3_number : Room := { frames := 1, cells := 0, slots := 0, locals := 21 }
set_option maxRecDepth 100000 in
set_option maxHeartbeats 4000000 in
theorem c_X3_number (l : Launch) (dC : Nat → ClassId) (dI : Nat → Nat → Nat) (cyI cyJ cyO : ClassId) (sz : Nat) (h_o a_o_bytes a_o_newFar a_o_newTones a_o_newCurrents : Nat) (o_length : Int32) (o_place : Int32) (o_bytes : Nat → Int32) (x1 : Int32) (x2 : Int32) (post : (Int32 × Int32) → Prop) (hf : okP (f_X3_number x1 x2 o_length o_place o_bytes) post) : Ci l (dC, dI) (tyL cyI cyJ cyO) yX3_number wsX3_number rm_X3_number [.ref h_o, .int x1, .int x2] sz (W_X3_number cyI cyJ cyO h_o a_o_bytes a_o_newFar a_o_newTones a_o_newCurrents o_length o_place o_bytes) zN (fun r u => post (r, u)) (fun u => (W_X3_number cyI cyJ cyO h_o a_o_bytes a_o_newFar a_o_newTones a_o_newCurrents o_length u o_bytes)) := by
  refine Met.ofW (cc := cX3_number) (maxL := 5) (ret := (some .int)) (by decide) rfl ?_
  intro p e s m args below meth c s₁ B hml hv
  obtain ⟨rfl, hsz, hP, hK, hD0, hZ⟩ := hv
  have hx := B.exec
  have hb := B.bytes
  have hr := B.returns
  have hts := atoms_spec (ws := wsX3_number) B.pre
  have hown : s.vm.findClass RX3 = some m.cls := findClass_of_methodNamed B.named
  have hlocks := B.notSynchronized
  subst hsz
  have hD := hD0.self (sz := s.heap.size)
  generalize hAe : va_A (W_X3_number cyI cyJ cyO h_o a_o_bytes a_o_newFar a_o_newTones a_o_newCurrents o_length o_place o_bytes) s.heap.size = A at hD hZ ⊢
  have hA : ∀ q : Nat, s.heap.size ≤ q → A q := fun q h => by rw [← hAe]; exact Or.inr h
  clear hAe hD0
  have hS : va_S A s.heap s.heap [] := va_S.rf
  have hl := lv_entry ([.ref h_o, .int x1, .int x2]) (n := 5) (Nat.le_of_ble_eq_true rfl)
  rw [lg_entry_eq]
  generalize (lg_sl ([.ref h_o, .int x1, .int x2]) ++ List.replicate (5 - (lg_sl ([.ref h_o, .int x1, .int x2])).length) Slot.unset).toArray = ls at hl ⊢
  have hl : lv_has ls 5 [(0, .ref h_o), (1, .int x1), (2, .int x2)] := hl
  refine kW (fun Q hQ => ?_)
  have hq0 := hts _ (List.mem_cons_of_mem _ q_233)
  have hi3 : ∀ w ∈ u_ws RX3 TX3 6, w ∈ wsX3_number := fun w h => List.mem_cons_of_mem _ (inX3 w h)
  have hq2 := hts _ (List.mem_cons_of_mem _ q_232)
  have hq3 := hts _ (List.mem_cons_of_mem _ q_231)
  have hq4 := hts _ (List.mem_cons_of_mem _ q_370)
  have hq5 := hts _ (List.mem_cons_of_mem _ q_371)
  have hq6 := hts _ (List.mem_cons_of_mem _ q_9)
  have hq7 := hts _ (List.mem_cons_of_mem _ q_372)
  have hw := hf
  have w113 : ∀ (v3 : Int32) (o_place : Int32) (H : Heap) (locs : List Loc), va_P (dC, dI) vwCl (W_X3_number cyI cyJ cyO h_o a_o_bytes a_o_newFar a_o_newTones a_o_newCurrents o_length o_place o_bytes) H → va_D A (W_X3_number cyI cyJ cyO h_o a_o_bytes a_o_newFar a_o_newTones a_o_newCurrents o_length o_place o_bytes) → va_S A s.heap H locs → ∀ (ls : Array Slot), lv_has ls 5 [(0, .ref h_o), (3, .int v3)] → okP (f_X3_number_B113 v3 o_length o_place o_bytes) post → W p l e (headSpec wsX3_number rm_X3_number).room s m ([.ref h_o, .int x1, .int x2] : List Value).toArray below meth c H locs 0 0 Q (F0 m 113 ls []) := by
    intro v3 o_place H locs hP hD hS ls hl hw
    unfold f_X3_number_B113 at hw
    refine lv_aload_n hx hb dX3_number_113 rfl (lv_at hl 0 rfl) ?_
    refine lv_iload_n hx hb dX3_number_114 rfl (lv_at hl 1 rfl) ?_
    refine va_put (D := (dC, dI)) (ci := 3) (v := .int v3) (ty := .int) (C := RX3) (T := TX3) (N := 6) hx hb hts hi3 tyX3 tyX3_ok nmX3 hown hK hP hD hS 0 rfl rfl 2 (by decide) hq0 (fun _ h9 => h9) rfl (by decide +kernel) rfl rfl (Nat.le_of_ble_eq_true rfl) dX3_number_115 (fun H locs hP hD hS => ?_)
    have hP : va_P (dC, dI) vwCl (W_X3_number cyI cyJ cyO h_o a_o_bytes a_o_newFar a_o_newTones a_o_newCurrents o_length v3 o_bytes) H := hP
    have hD : va_D A (W_X3_number cyI cyJ cyO h_o a_o_bytes a_o_newFar a_o_newTones a_o_newCurrents o_length v3 o_bytes) := hD
    refine lv_iconst (v := (-1)) hx hb dX3_number_118 (by decide) ?_
    rw [hQ]
    exact W.iret (v := (-1)) hx hb hr (fun t ht hW => ⟨⟨(-1), v3, rfl, okS hw, by rw [ht]; exact hP, va_K.moved hW.alike hK, hD⟩, hS.F ht⟩) hS.2.2 dX3_number_119
  have w90 : ∀ (v1 : Int32) (v2 : Int32) (v3 : Int32) (v4 : Int32) (o_place : Int32) (H : Heap) (locs : List Loc), va_P (dC, dI) vwCl (W_X3_number cyI cyJ cyO h_o a_o_bytes a_o_newFar a_o_newTones a_o_newCurrents o_length o_place o_bytes) H → va_D A (W_X3_number cyI cyJ cyO h_o a_o_bytes a_o_newFar a_o_newTones a_o_newCurrents o_length o_place o_bytes) → va_S A s.heap H locs → ∀ (ls : Array Slot), lv_has ls 5 [(0, .ref h_o), (1, .int v1), (2, .int v2), (3, .int v3), (4, .int v4)] → okP (f_X3_number_B90 v1 v2 v3 v4 o_length o_place o_bytes) post → W p l e (headSpec wsX3_number rm_X3_number).room s m ([.ref h_o, .int x1, .int x2] : List Value).toArray below meth c H locs 0 0 Q (F0 m 90 ls []) := by
    intro v1 v2 v3 v4 o_place H locs hP hD hS ls hl hw
    unfold f_X3_number_B90 at hw
    refine lv_aload_n hx hb dX3_number_90 rfl (lv_at hl 0 rfl) ?_
    refine va_get (D := (dC, dI)) (ci := 3) (v := .int o_place) (C := RX3) (T := TX3) (N := 6) hx hb hts hi3 hown hK hP 0 rfl rfl 2 (by decide) hq0 (fun _ h9 => h9) rfl dX3_number_91 ?_
    refine lv_iload_n hx hb dX3_number_94 rfl (lv_at hl 3 rfl) ?_
    refine lv_icmp_le (tgt := 113) hx hb dX3_number_95 (by decide) (fun c_1 => ?_) (fun c_1 => ?_)
    · replace hw := okT hw c_1
      clear c_1
      exact w113 v3 o_place _ _ hP hD hS _ (lv_sub hl [0, 3] rfl) hw
    · replace hw := okF hw c_1
      clear c_1
      refine lv_iload hx hb dX3_number_98 (lv_at hl 4 rfl) ?_
      refine lv_iload_n hx hb dX3_number_100 rfl (lv_at hl 1 rfl) ?_
      refine lv_icmp_lt (tgt := 113) hx hb dX3_number_101 (by decide) (fun c_2 => ?_) (fun c_2 => ?_)
      · replace hw := okT hw c_2
        clear c_2
        exact w113 v3 o_place _ _ hP hD hS _ (lv_sub hl [0, 3] rfl) hw
      · replace hw := okF hw c_2
        clear c_2
        refine lv_iload hx hb dX3_number_104 (lv_at hl 4 rfl) ?_
        refine lv_iload_n hx hb dX3_number_106 rfl (lv_at hl 2 rfl) ?_
        refine lv_icmp_gt (tgt := 113) hx hb dX3_number_107 (by decide) (fun c_3 => ?_) (fun c_3 => ?_)
        · replace hw := okT hw c_3
          clear c_3
          exact w113 v3 o_place _ _ hP hD hS _ (lv_sub hl [0, 3] rfl) hw
        · replace hw := okF hw c_3
          clear c_3
          refine lv_iload hx hb dX3_number_110 (lv_at hl 4 rfl) ?_
          rw [hQ]
          exact W.iret (v := v4) hx hb hr (fun t ht hW => ⟨⟨v4, o_place, rfl, okS hw, by rw [ht]; exact hP, va_K.moved hW.alike hK, hD⟩, hS.F ht⟩) hS.2.2 dX3_number_112
  have w12 : ∀ (n : Nat), ∀ (v1 : Int32) (v2 : Int32) (v3 : Int32) (v4 : Int32) (o_place : Int32) (H : Heap) (locs : List Loc), va_P (dC, dI) vwCl (W_X3_number cyI cyJ cyO h_o a_o_bytes a_o_newFar a_o_newTones a_o_newCurrents o_length o_place o_bytes) H → va_D A (W_X3_number cyI cyJ cyO h_o a_o_bytes a_o_newFar a_o_newTones a_o_newCurrents o_length o_place o_bytes) → va_S A s.heap H locs → ∀ (ls : Array Slot), lv_has ls 5 [(0, .ref h_o), (1, .int v1), (2, .int v2), (3, .int v3), (4, .int v4)] → okP (f_X3_number_L12 n v1 v2 v3 v4 o_length o_place o_bytes) post → W p l e (headSpec wsX3_number rm_X3_number).room s m ([.ref h_o, .int x1, .int x2] : List Value).toArray below meth c H locs 0 0 Q (F0 m 12 ls []) := by
    intro n
    induction n with
    | zero =>
      intro v1 v2 v3 v4 o_place H locs hP hD hS ls hl hw
      exact (ok0 hw).elim
    | succ n12 ih12 =>
      intro v1 v2 v3 v4 o_place H locs hP hD hS ls hl hw
      replace hw : okP (f_X3_number_L12b (f_X3_number_L12 n12) v1 v2 v3 v4 o_length o_place o_bytes) post := hw
      unfold f_X3_number_L12b at hw
      refine lv_aload_n hx hb dX3_number_12 rfl (lv_at hl 0 rfl) ?_
      refine va_get (D := (dC, dI)) (ci := 3) (v := .int o_place) (C := RX3) (T := TX3) (N := 6) hx hb hts hi3 hown hK hP 0 rfl rfl 2 (by decide) hq0 (fun _ h9 => h9) rfl dX3_number_13 ?_
      refine lv_aload_n hx hb dX3_number_16 rfl (lv_at hl 0 rfl) ?_
      refine va_get (D := (dC, dI)) (ci := 3) (v := .int o_length) (C := RX3) (T := TX3) (N := 6) hx hb hts hi3 hown hK hP 0 rfl rfl 1 (by decide) hq2 (fun _ h9 => h9) rfl dX3_number_17 ?_
      refine lv_icmp_ge (tgt := 90) hx hb dX3_number_20 (by decide) (fun c_4 => ?_) (fun c_4 => ?_)
      · replace hw := okT hw c_4
        clear c_4
        exact w90 v1 v2 v3 v4 o_place _ _ hP hD hS _ (lv_sub hl [0, 1, 2, 3, 4] rfl) hw
      · replace hw := okF hw c_4
        clear c_4
        refine lv_aload_n hx hb dX3_number_23 rfl (lv_at hl 0 rfl) ?_
        refine va_get (D := (dC, dI)) (ci := 3) (v := .ref a_o_bytes) (C := RX3) (T := TX3) (N := 6) hx hb hts hi3 hown hK hP 0 rfl rfl 0 (by decide) hq3 (fun _ h9 => h9) rfl dX3_number_24 ?_
        refine lv_aload_n hx hb dX3_number_27 rfl (lv_at hl 0 rfl) ?_
        refine va_get (D := (dC, dI)) (ci := 3) (v := .int o_place) (C := RX3) (T := TX3) (N := 6) hx hb hts hi3 hown hK hP 0 rfl rfl 2 (by decide) hq0 (fun _ h9 => h9) rfl dX3_number_28 ?_
        obtain ⟨h_5, hw⟩ := okC hw
        refine va_iald (i := o_place) hx hb hK hP 1 0 rfl rfl h_5 dX3_number_31 ?_
        refine lv_bipush (v := 48) hx hb dX3_number_32 (by decide) ?_
        refine lv_icmp_lt (tgt := 90) hx hb dX3_number_34 (by decide) (fun c_6 => ?_) (fun c_6 => ?_)
        · replace hw := okT hw c_6
          clear c_6
          exact w90 v1 v2 v3 v4 o_place _ _ hP hD hS _ (lv_sub hl [0, 1, 2, 3, 4] rfl) hw
        · replace hw := okF hw c_6
          clear c_6
          refine lv_aload_n hx hb dX3_number_37 rfl (lv_at hl 0 rfl) ?_
          refine va_get (D := (dC, dI)) (ci := 3) (v := .ref a_o_bytes) (C := RX3) (T := TX3) (N := 6) hx hb hts hi3 hown hK hP 0 rfl rfl 0 (by decide) hq3 (fun _ h9 => h9) rfl dX3_number_38 ?_
          refine lv_aload_n hx hb dX3_number_41 rfl (lv_at hl 0 rfl) ?_
          refine va_get (D := (dC, dI)) (ci := 3) (v := .int o_place) (C := RX3) (T := TX3) (N := 6) hx hb hts hi3 hown hK hP 0 rfl rfl 2 (by decide) hq0 (fun _ h9 => h9) rfl dX3_number_42 ?_
          obtain ⟨h_7, hw⟩ := okC hw
          refine va_iald (i := o_place) hx hb hK hP 1 0 rfl rfl h_7 dX3_number_45 ?_
          refine lv_bipush (v := 57) hx hb dX3_number_46 (by decide) ?_
          refine lv_icmp_gt (tgt := 90) hx hb dX3_number_48 (by decide) (fun c_8 => ?_) (fun c_8 => ?_)
          · replace hw := okT hw c_8
            clear c_8
            exact w90 v1 v2 v3 v4 o_place _ _ hP hD hS _ (lv_sub hl [0, 1, 2, 3, 4] rfl) hw
          · replace hw := okF hw c_8
            clear c_8
            refine lv_bipush (v := 10) hx hb dX3_number_51 (by decide) ?_
            refine lv_iload hx hb dX3_number_53 (lv_at hl 4 rfl) ?_
            refine lv_imul hx hb dX3_number_55 ?_
            refine lv_aload_n hx hb dX3_number_56 rfl (lv_at hl 0 rfl) ?_
            refine va_get (D := (dC, dI)) (ci := 3) (v := .ref a_o_bytes) (C := RX3) (T := TX3) (N := 6) hx hb hts hi3 hown hK hP 0 rfl rfl 0 (by decide) hq3 (fun _ h9 => h9) rfl dX3_number_57 ?_
            refine lv_aload_n hx hb dX3_number_60 rfl (lv_at hl 0 rfl) ?_
            refine va_get (D := (dC, dI)) (ci := 3) (v := .int o_place) (C := RX3) (T := TX3) (N := 6) hx hb hts hi3 hown hK hP 0 rfl rfl 2 (by decide) hq0 (fun _ h9 => h9) rfl dX3_number_61 ?_
            obtain ⟨h_9, hw⟩ := okC hw
            refine va_iald (i := o_place) hx hb hK hP 1 0 rfl rfl h_9 dX3_number_64 ?_
            refine lv_iadd hx hb dX3_number_65 ?_
            refine lv_bipush (v := 48) hx hb dX3_number_66 (by decide) ?_
            refine lv_isub hx hb dX3_number_68 ?_
            refine lv_sipush (v := 1000) hx hb dX3_number_69 (by decide) ?_
            refine va_mmin hx hb (hml.trans hl.1.symm) hown hq4 hq5 hq6 hq7 (Nat.le_of_ble_eq_true rfl) (Nat.le_of_ble_eq_true rfl) (Nat.le_of_ble_eq_true rfl) (Nat.le_of_ble_eq_true rfl) dX3_number_72 ?_
            refine lv_topi (fun x_10 ex_10 => ?_)
            replace hw := okN ex_10 hw
            clear ex_10
            refine lv_istore (lv' := [(4, .int x_10), (0, .ref h_o), (1, .int v1), (2, .int v2), (3, .int v3)]) hx hb dX3_number_75 hl (by decide) rfl (fun ls hl => ?_)
            refine lv_aload_n hx hb dX3_number_77 rfl (lv_at hl 1 rfl) ?_
            refine lv_dup hx hb dX3_number_78 rfl ?_
            refine va_get (D := (dC, dI)) (ci := 3) (v := .int o_place) (C := RX3) (T := TX3) (N := 6) hx hb hts hi3 hown hK hP 0 rfl rfl 2 (by decide) hq0 (fun _ h9 => h9) rfl dX3_number_79 ?_
            refine lv_iconst (v := 1) hx hb dX3_number_82 (by decide) ?_
            refine lv_iadd hx hb dX3_number_83 ?_
            refine lv_topi (fun x_11 ex_11 => ?_)
            replace hw := okN ex_11 hw
            clear ex_11
            refine va_put (D := (dC, dI)) (ci := 3) (v := .int x_11) (ty := .int) (C := RX3) (T := TX3) (N := 6) hx hb hts hi3 tyX3 tyX3_ok nmX3 hown hK hP hD hS 0 rfl rfl 2 (by decide) hq0 (fun _ h9 => h9) rfl (by decide +kernel) rfl rfl (Nat.le_of_ble_eq_true rfl) dX3_number_84 (fun H locs hP hD hS => ?_)
            have hP : va_P (dC, dI) vwCl (W_X3_number cyI cyJ cyO h_o a_o_bytes a_o_newFar a_o_newTones a_o_newCurrents o_length x_11 o_bytes) H := hP
            have hD : va_D A (W_X3_number cyI cyJ cyO h_o a_o_bytes a_o_newFar a_o_newTones a_o_newCurrents o_length x_11 o_bytes) := hD
            refine lv_goto (tgt := 12) hx hb dX3_number_87 (by decide) ?_
            exact ih12 v1 v2 v3 x_10 x_11 _ _ hP hD hS _ (lv_sub hl [1, 2, 3, 4, 0] rfl) hw
  unfold f_X3_number at hw
  have hP : va_P (dC, dI) vwCl (W_X3_number cyI cyJ cyO h_o a_o_bytes a_o_newFar a_o_newTones a_o_newCurrents o_length o_place o_bytes) s.heap := hP
  obtain ⟨H, hH⟩ : ∃ H, H = s.heap := ⟨_, rfl⟩
  obtain ⟨locs, hlo⟩ : ∃ x : List Loc, x = [] := ⟨_, rfl⟩
  have hP : va_P (dC, dI) vwCl (W_X3_number cyI cyJ cyO h_o a_o_bytes a_o_newFar a_o_newTones a_o_newCurrents o_length o_place o_bytes) H := by rw [hH]; exact hP
  have hS : va_S A s.heap H locs := by rw [hH, hlo]; exact hS
  refine kH hH hlo ?_
  clear hH hlo
  refine lv_aload_n hx hb dX3_number_0 rfl (lv_at hl 0 rfl) ?_
  have hPc := hP.sub (ws' := (W_X3_skipBlanks cyI cyJ cyO h_o a_o_bytes a_o_newFar a_o_newTones a_o_newCurrents o_length o_place o_bytes)) [0, 1] rfl
  have hDc := hD.sub (ws' := (W_X3_skipBlanks cyI cyJ cyO h_o a_o_bytes a_o_newFar a_o_newTones a_o_newCurrents o_length o_place o_bytes)) [0, 1] (by decide +kernel) rfl
  have hFc := va_free (wc := (W_X3_skipBlanks cyI cyJ cyO h_o a_o_bytes a_o_newFar a_o_newTones a_o_newCurrents o_length o_place o_bytes)) hD hS hA [0, 1] rfl
  refine kc_v (wr := []) (va_runV (As := []) (rest := []) ⟨hx, hb, hml, hown, hts⟩ (c_X3_skipBlanks l dC dI cyI cyJ cyO H.size h_o a_o_bytes a_o_newFar a_o_newTones a_o_newCurrents o_length o_place o_bytes _ (okb1 hw)) (cwV 0 hts (gdV (fun w h => List.mem_cons_of_mem _ h) q_366 q_368 qs_4 q_6 q_369) rfl rfl rfl (by decide +kernel) ⟨Nat.le_of_ble_eq_true rfl, Nat.le_of_ble_eq_true rfl⟩) ⟨(kpre zN_ok hK hPc hDc trivial hS hFc).1, va_recv hK hP (ci := 3) (q0 := 0) rfl rfl, (kpre zN_ok hK hPc hDc trivial hS hFc).2⟩ rfl rfl hl.1 rfl (lv_room (Nat.le_of_ble_eq_true rfl)) dX3_number_1 ⟨Nat.le_of_ble_eq_true rfl, Nat.le_of_ble_eq_true rfl⟩) hP hD hS hFc [0, 1] [] rfl rfl (by decide +kernel) (by decide +kernel) (fun w_12 H locs hw hP hD hS => ?_)
  try dsimp only at hw
  have hP : va_P (dC, dI) vwCl (W_X3_number cyI cyJ cyO h_o a_o_bytes a_o_newFar a_o_newTones a_o_newCurrents o_length w_12 o_bytes) H := hP.sub [0, 1] rfl
  have hD : va_D A (W_X3_number cyI cyJ cyO h_o a_o_bytes a_o_newFar a_o_newTones a_o_newCurrents o_length w_12 o_bytes) := hD.sub [0, 1] (by decide +kernel) rfl
  clear hPc hDc hFc
  refine lv_aload_n hx hb dX3_number_4 rfl (lv_at hl 0 rfl) ?_
  refine va_get (D := (dC, dI)) (ci := 3) (v := .int w_12) (C := RX3) (T := TX3) (N := 6) hx hb hts hi3 hown hK hP 0 rfl rfl 2 (by decide) hq0 (fun _ h9 => h9) rfl dX3_number_5 ?_
  refine lv_istore_n (lv' := [(3, .int w_12), (0, .ref h_o), (1, .int x1), (2, .int x2)]) hx hb dX3_number_8 rfl hl (by decide) rfl (fun ls hl => ?_)
  refine lv_iconst (v := 0) hx hb dX3_number_9 (by decide) ?_
  refine lv_istore (lv' := [(4, .int 0), (3, .int w_12), (0, .ref h_o), (1, .int x1), (2, .int x2)]) hx hb dX3_number_10 hl (by decide) rfl (fun ls hl => ?_)
  exact w12 FU x1 x2 w_12 0 w_12 _ _ hP hD hS _ (lv_sub hl [2, 3, 4, 1, 0] rfl) hw
/-! ===== X3_scanRing ===== -/
theorem dX3_scanRing_0 : decode cX3_scanRing 0 = .ok (.aload_n 0, 1) := by decide +kernel
theorem dX3_scanRing_1 : decode cX3_scanRing 1 = .ok (.getfield 22, 3) := by decide +kernel
theorem dX3_scanRing_4 : decode cX3_scanRing 4 = .ok (.iload_n 1, 1) := by decide +kernel
theorem dX3_scanRing_5 : decode cX3_scanRing 5 = .ok (.iconst (-1), 1) := by decide +kernel
theorem dX3_scanRing_6 : decode cX3_scanRing 6 = .ok (.iastore, 1) := by decide +kernel
theorem dX3_scanRing_7 : decode cX3_scanRing 7 = .ok (.aload_n 0, 1) := by decide +kernel
theorem dX3_scanRing_8 : decode cX3_scanRing 8 = .ok (.bipush 63, 2) := by decide +kernel
theorem dX3_scanRing_10 : decode cX3_scanRing 10 = .ok (.invokevirtual 43, 3) := by decide +kernel
theorem dX3_scanRing_13 : decode cX3_scanRing 13 = .ok (.ifCond .ne 25, 3) := by decide +kernel
theorem dX3_scanRing_16 : decode cX3_scanRing 16 = .ok (.aload_n 0, 1) := by decide +kernel
theorem dX3_scanRing_17 : decode cX3_scanRing 17 = .ok (.iconst 0, 1) := by decide +kernel
theorem dX3_scanRing_18 : decode cX3_scanRing 18 = .ok (.bipush 40, 2) := by decide +kernel
theorem dX3_scanRing_20 : decode cX3_scanRing 20 = .ok (.invokevirtual 39, 3) := by decide +kernel
theorem dX3_scanRing_23 : decode cX3_scanRing 23 = .ok (.istore_n 2, 1) := by decide +kernel
theorem dX3_scanRing_24 : decode cX3_scanRing 24 = .ok (.iload_n 2, 1) := by decide +kernel
theorem dX3_scanRing_25 : decode cX3_scanRing 25 = .ok (.iconst (-1), 1) := by decide +kernel
theorem dX3_scanRing_26 : decode cX3_scanRing 26 = .ok (.if_icmp .ne 5, 3) := by decide +kernel
theorem dX3_scanRing_29 : decode cX3_scanRing 29 = .ok (.iconst 0, 1) := by decide +kernel
theorem dX3_scanRing_30 : decode cX3_scanRing 30 = .ok (.ireturn, 1) := by decide +kernel
theorem dX3_scanRing_31 : decode cX3_scanRing 31 = .ok (.aload_n 0, 1) := by decide +kernel
theorem dX3_scanRing_32 : decode cX3_scanRing 32 = .ok (.getfield 22, 3) := by decide +kernel
theorem dX3_scanRing_35 : decode cX3_scanRing 35 = .ok (.iload_n 1, 1) := by decide +kernel
theorem dX3_scanRing_36 : decode cX3_scanRing 36 = .ok (.iload_n 2, 1) := by decide +kernel
theorem dX3_scanRing_37 : decode cX3_scanRing 37 = .ok (.iastore, 1) := by decide +kernel
theorem dX3_scanRing_38 : decode cX3_scanRing 38 = .ok (.aload_n 0, 1) := by decide +kernel
theorem dX3_scanRing_39 : decode cX3_scanRing 39 = .ok (.getfield 25, 3) := by decide +kernel
theorem dX3_scanRing_42 : decode cX3_scanRing 42 = .ok (.iload_n 1, 1) := by decide +kernel
theorem dX3_scanRing_43 : decode cX3_scanRing 43 = .ok (.aload_n 0, 1) := by decide +kernel
theorem dX3_scanRing_44 : decode cX3_scanRing 44 = .ok (.bipush 43, 2) := by decide +kernel
theorem dX3_scanRing_46 : decode cX3_scanRing 46 = .ok (.invokevirtual 43, 3) := by decide +kernel
theorem dX3_scanRing_49 : decode cX3_scanRing 49 = .ok (.ifCond .eq 7, 3) := by decide +kernel
theorem dX3_scanRing_52 : decode cX3_scanRing 52 = .ok (.iconst 2, 1) := by decide +kernel
theorem dX3_scanRing_53 : decode cX3_scanRing 53 = .ok (.goto 17, 3) := by decide +kernel
theorem dX3_scanRing_56 : decode cX3_scanRing 56 = .ok (.aload_n 0, 1) := by decide +kernel
theorem dX3_scanRing_57 : decode cX3_scanRing 57 = .ok (.bipush 45, 2) := by decide +kernel
theorem dX3_scanRing_59 : decode cX3_scanRing 59 = .ok (.invokevirtual 43, 3) := by decide +kernel
theorem dX3_scanRing_62 : decode cX3_scanRing 62 = .ok (.ifCond .eq 7, 3) := by decide +kernel
theorem dX3_scanRing_65 : decode cX3_scanRing 65 = .ok (.iconst 1, 1) := by decide +kernel
theorem dX3_scanRing_66 : decode cX3_scanRing 66 = .ok (.goto 4, 3) := by decide +kernel
theorem dX3_scanRing_69 : decode cX3_scanRing 69 = .ok (.iconst 0, 1) := by decide +kernel
theorem dX3_scanRing_70 : decode cX3_scanRing 70 = .ok (.iastore, 1) := by decide +kernel
theorem dX3_scanRing_71 : decode cX3_scanRing 71 = .ok (.iconst 1, 1) := by decide +kernel
theorem dX3_scanRing_72 : decode cX3_scanRing 72 = .ok (.ireturn, 1) := by decide +kernel
abbrev W_X3_scanRing (cyI cyJ cyO : ClassId) (h_o a_o_bytes a_o_newFar a_o_newTones a_o_newCurrents : Nat) (o_length : Int32) (o_place : Int32) (o_bytes : Nat → Int32) (o_newFar : Nat → Int32) (o_newTones : Nat → Int32) : va_W := [(h_o, .inr (3, [.ref a_o_bytes, .int o_length, .int o_place, .ref a_o_newFar, .ref a_o_newTones, .ref a_o_newCurrents])), (a_o_bytes, .inl (cyI, 60, .inl o_bytes)), (a_o_newFar, .inl (cyI, 7, .inl o_newFar)), (a_o_newTones, .inl (cyI, 7, .inl o_newTones))]
def f_X3_scanRing_B70 (y0 : Int32) (y1 : Int32) (o_length : Int32) (o_place : Int32) (o_bytes : Nat → Int32) (o_newFar : Nat → Int32) (o_newTones : Nat → Int32) : Option (Int32 × Int32 × (Nat → Int32) × (Nat → Int32)) :=
  chk (¬ (y1 < 0 ∨ 7 ≤ y1.toNatClampNeg)) <|
  some (1, o_place, o_newFar, upd o_newTones y1.toNatClampNeg y0)
def f_X3_scanRing_B38 (v1 : Int32) (o_length : Int32) (o_place : Int32) (o_bytes : Nat → Int32) (o_newFar : Nat → Int32) (o_newTones : Nat → Int32) : Option (Int32 × Int32 × (Nat → Int32) × (Nat → Int32)) :=
  bd2 (f_X3_passes 43 o_length o_place o_bytes) fun r_1 w_2 =>
  if r_1 = 0 then
    bd2 (f_X3_passes 45 o_length w_2 o_bytes) fun r_3 w_4 =>
    if r_3 = 0 then
      f_X3_scanRing_B70 0 v1 o_length w_4 o_bytes o_newFar o_newTones
    else
      f_X3_scanRing_B70 1 v1 o_length w_4 o_bytes o_newFar o_newTones
  else
    f_X3_scanRing_B70 2 v1 o_length w_2 o_bytes o_newFar o_newTones
def f_X3_scanRing (x1 : Int32) (o_length : Int32) (o_place : Int32) (o_bytes : Nat → Int32) (o_newFar : Nat → Int32) (o_newTones : Nat → Int32) : Option (Int32 × Int32 × (Nat → Int32) × (Nat → Int32)) :=
  chk (¬ (x1 < 0 ∨ 7 ≤ x1.toNatClampNeg)) <|
  bd2 (f_X3_passes 63 o_length o_place o_bytes) fun r_5 w_6 =>
  if r_5 = 0 then
    bd2 (f_X3_number 0 40 o_length w_6 o_bytes) fun r_7 w_8 =>
    if r_7 = (-1) then
      some (0, w_8, upd o_newFar x1.toNatClampNeg (-1), o_newTones)
    else
      chk (¬ (x1 < 0 ∨ 7 ≤ x1.toNatClampNeg)) <|
      f_X3_scanRing_B38 x1 o_length w_8 o_bytes (upd (upd o_newFar x1.toNatClampNeg (-1)) x1.toNatClampNeg r_7) o_newTones
  else
    f_X3_scanRing_B38 x1 o_length w_6 o_bytes (upd o_newFar x1.toNatClampNeg (-1)) o_newTones
abbrev rm_X3_scanRing : Room := { frames := 3, cells := 0, slots := 0, locals := 61 }
set_option maxRecDepth 100000 in
set_option maxHeartbeats 4000000 in
theorem c_X3_scanRing (l : Launch) (dC : Nat → ClassId) (dI : Nat → Nat → Nat) (cyI cyJ cyO : ClassId) (sz : Nat) (h_o a_o_bytes a_o_newFar a_o_newTones a_o_newCurrents : Nat) (o_length : Int32) (o_place : Int32) (o_bytes : Nat → Int32) (o_newFar : Nat → Int32) (o_newTones : Nat → Int32) (x1 : Int32) (post : (Int32 × Int32 × (Nat → Int32) × (Nat → Int32)) → Prop) (hf : okP (f_X3_scanRing x1 o_length o_place o_bytes o_newFar o_newTones) post) : Ci l (dC, dI) (tyL cyI cyJ cyO) yX3_scanRing wsX3_scanRing rm_X3_scanRing [.ref h_o, .int x1] sz (W_X3_scanRing cyI cyJ cyO h_o a_o_bytes a_o_newFar a_o_newTones a_o_newCurrents o_length o_place o_bytes o_newFar o_newTones) zN (fun r u => post (r, u)) (fun u => (W_X3_scanRing cyI cyJ cyO h_o a_o_bytes a_o_newFar a_o_newTones a_o_newCurrents o_length u.1 o_bytes u.2.1 u.2.2)) := by
  refine Met.ofW (cc := cX3_scanRing) (maxL := 3) (ret := (some .boolean)) (by decide) rfl ?_
  intro p e s m args below meth c s₁ B hml hv
  obtain ⟨rfl, hsz, hP, hK, hD0, hZ⟩ := hv
  have hx := B.exec
  have hb := B.bytes
  have hr := B.returns
  have hts := atoms_spec (ws := wsX3_scanRing) B.pre
  have hown : s.vm.findClass RX3 = some m.cls := findClass_of_methodNamed B.named
  have hlocks := B.notSynchronized
  subst hsz
  have hD := hD0.self (sz := s.heap.size)
  generalize hAe : va_A (W_X3_scanRing cyI cyJ cyO h_o a_o_bytes a_o_newFar a_o_newTones a_o_newCurrents o_length o_place o_bytes o_newFar o_newTones) s.heap.size = A at hD hZ ⊢
  have hA : ∀ q : Nat, s.heap.size ≤ q → A q := fun q h => by rw [← hAe]; exact Or.inr h
  clear hAe hD0
  have hS : va_S A s.heap s.heap [] := va_S.rf
  have hl := lv_entry ([.ref h_o, .int x1]) (n := 3) (Nat.le_of_ble_eq_true rfl)
  rw [lg_entry_eq]
  generalize (lg_sl ([.ref h_o, .int x1]) ++ List.replicate (3 - (lg_sl ([.ref h_o, .int x1])).length) Slot.unset).toArray = ls at hl ⊢
  have hl : lv_has ls 3 [(0, .ref h_o), (1, .int x1)] := hl
  refine kW (fun Q hQ => ?_)
  have hq0 := hts _ (List.mem_cons_of_mem _ q_235)
  have hi3 : ∀ w ∈ u_ws RX3 TX3 6, w ∈ wsX3_scanRing := fun w h => List.mem_cons_of_mem _ (inX3 w h)
  have hq2 := hts _ (List.mem_cons_of_mem _ q_234)
  have hw := hf
  have w70 : ∀ (y0 : Int32) (y1 : Int32) (o_place : Int32) (o_newFar : Nat → Int32) (o_newTones : Nat → Int32) (H : Heap) (locs : List Loc), va_P (dC, dI) vwCl (W_X3_scanRing cyI cyJ cyO h_o a_o_bytes a_o_newFar a_o_newTones a_o_newCurrents o_length o_place o_bytes o_newFar o_newTones) H → va_D A (W_X3_scanRing cyI cyJ cyO h_o a_o_bytes a_o_newFar a_o_newTones a_o_newCurrents o_length o_place o_bytes o_newFar o_newTones) → va_S A s.heap H locs → ∀ (ls : Array Slot), lv_has ls 3 [] → okP (f_X3_scanRing_B70 y0 y1 o_length o_place o_bytes o_newFar o_newTones) post → W p l e (headSpec wsX3_scanRing rm_X3_scanRing).room s m ([.ref h_o, .int x1] : List Value).toArray below meth c H locs 0 0 Q (F0 m 70 ls [.int y0, .int y1, .ref a_o_newTones]) := by
    intro y0 y1 o_place o_newFar o_newTones H locs hP hD hS ls hl hw
    unfold f_X3_scanRing_B70 at hw
    obtain ⟨h_1, hw⟩ := okC hw
    refine va_iast (i := y1) (x := y0) hx hb hK hP hD hS 3 0 rfl rfl h_1 dX3_scanRing_70 (fun H locs hP hD hS => ?_)
    have hP : va_P (dC, dI) vwCl (W_X3_scanRing cyI cyJ cyO h_o a_o_bytes a_o_newFar a_o_newTones a_o_newCurrents o_length o_place o_bytes o_newFar (upd o_newTones y1.toNatClampNeg y0)) H := hP
    have hD : va_D A (W_X3_scanRing cyI cyJ cyO h_o a_o_bytes a_o_newFar a_o_newTones a_o_newCurrents o_length o_place o_bytes o_newFar (upd o_newTones y1.toNatClampNeg y0)) := hD
    refine lv_iconst (v := 1) hx hb dX3_scanRing_71 (by decide) ?_
    rw [hQ]
    exact W.zret (v := 1) hx hb hr (by decide) (fun t ht hW => ⟨⟨1, (o_place, o_newFar, upd o_newTones y1.toNatClampNeg y0), rfl, okS hw, by rw [ht]; exact hP, va_K.moved hW.alike hK, hD⟩, hS.F ht⟩) hS.2.2 dX3_scanRing_72
  have w38 : ∀ (v1 : Int32) (o_place : Int32) (o_newFar : Nat → Int32) (o_newTones : Nat → Int32) (H : Heap) (locs : List Loc), va_P (dC, dI) vwCl (W_X3_scanRing cyI cyJ cyO h_o a_o_bytes a_o_newFar a_o_newTones a_o_newCurrents o_length o_place o_bytes o_newFar o_newTones) H → va_D A (W_X3_scanRing cyI cyJ cyO h_o a_o_bytes a_o_newFar a_o_newTones a_o_newCurrents o_length o_place o_bytes o_newFar o_newTones) → va_S A s.heap H locs → ∀ (ls : Array Slot), lv_has ls 3 [(0, .ref h_o), (1, .int v1)] → okP (f_X3_scanRing_B38 v1 o_length o_place o_bytes o_newFar o_newTones) post → W p l e (headSpec wsX3_scanRing rm_X3_scanRing).room s m ([.ref h_o, .int x1] : List Value).toArray below meth c H locs 0 0 Q (F0 m 38 ls []) := by
    intro v1 o_place o_newFar o_newTones H locs hP hD hS ls hl hw
    unfold f_X3_scanRing_B38 at hw
    refine lv_aload_n hx hb dX3_scanRing_38 rfl (lv_at hl 0 rfl) ?_
    refine va_get (D := (dC, dI)) (ci := 3) (v := .ref a_o_newTones) (C := RX3) (T := TX3) (N := 6) hx hb hts hi3 hown hK hP 0 rfl rfl 4 (by decide) hq0 (fun _ h9 => h9) rfl dX3_scanRing_39 ?_
    refine lv_iload_n hx hb dX3_scanRing_42 rfl (lv_at hl 1 rfl) ?_
    refine lv_aload_n hx hb dX3_scanRing_43 rfl (lv_at hl 0 rfl) ?_
    refine lv_bipush (v := 43) hx hb dX3_scanRing_44 (by decide) ?_
    have hPc := hP.sub (ws' := (W_X3_passes cyI cyJ cyO h_o a_o_bytes a_o_newFar a_o_newTones a_o_newCurrents o_length o_place o_bytes)) [0, 1] rfl
    have hDc := hD.sub (ws' := (W_X3_passes cyI cyJ cyO h_o a_o_bytes a_o_newFar a_o_newTones a_o_newCurrents o_length o_place o_bytes)) [0, 1] (by decide +kernel) rfl
    have hFc := va_free (wc := (W_X3_passes cyI cyJ cyO h_o a_o_bytes a_o_newFar a_o_newTones a_o_newCurrents o_length o_place o_bytes)) hD hS hA [0, 1] rfl
    refine kc_i (wr := [(a_o_newFar, .inl (cyI, 7, .inl o_newFar)), (a_o_newTones, .inl (cyI, 7, .inl o_newTones))]) (va_runV (As := [.int 43]) (rest := [.int v1, .ref a_o_newTones]) ⟨hx, hb, hml, hown, hts⟩ (c_X3_passes l dC dI cyI cyJ cyO H.size h_o a_o_bytes a_o_newFar a_o_newTones a_o_newCurrents o_length o_place o_bytes 43 _ (okb2 hw)) (cwV 1 hts (gdV (fun w h => List.mem_cons_of_mem _ h) q_373 q_375 qs_5 q_6 q_376) rfl rfl rfl (by decide +kernel) ⟨Nat.le_of_ble_eq_true rfl, Nat.le_of_ble_eq_true rfl⟩) ⟨(kpre zN_ok hK hPc hDc trivial hS hFc).1, va_recv hK hP (ci := 3) (q0 := 0) rfl rfl, (kpre zN_ok hK hPc hDc trivial hS hFc).2⟩ rfl rfl hl.1 rfl (lv_room (Nat.le_of_ble_eq_true rfl)) dX3_scanRing_46 ⟨Nat.le_of_ble_eq_true rfl, Nat.le_of_ble_eq_true rfl⟩) hP hD hS hFc [0, 1] [2, 3] rfl rfl (by decide +kernel) (by decide +kernel) (fun r_2 w_3 H locs hw hP hD hS => ?_)
    try dsimp only at hw
    have hP : va_P (dC, dI) vwCl (W_X3_scanRing cyI cyJ cyO h_o a_o_bytes a_o_newFar a_o_newTones a_o_newCurrents o_length w_3 o_bytes o_newFar o_newTones) H := hP.sub [2, 3, 0, 1] rfl
    have hD : va_D A (W_X3_scanRing cyI cyJ cyO h_o a_o_bytes a_o_newFar a_o_newTones a_o_newCurrents o_length w_3 o_bytes o_newFar o_newTones) := hD.sub [2, 3, 0, 1] (by decide +kernel) rfl
    clear hPc hDc hFc
    refine lv_if_eq (tgt := 56) hx hb dX3_scanRing_49 (by decide) (fun c_4 => ?_) (fun c_4 => ?_)
    · replace hw := okT hw c_4
      clear c_4
      refine lv_aload_n hx hb dX3_scanRing_56 rfl (lv_at hl 0 rfl) ?_
      refine lv_bipush (v := 45) hx hb dX3_scanRing_57 (by decide) ?_
      have hPc := hP.sub (ws' := (W_X3_passes cyI cyJ cyO h_o a_o_bytes a_o_newFar a_o_newTones a_o_newCurrents o_length w_3 o_bytes)) [0, 1] rfl
      have hDc := hD.sub (ws' := (W_X3_passes cyI cyJ cyO h_o a_o_bytes a_o_newFar a_o_newTones a_o_newCurrents o_length w_3 o_bytes)) [0, 1] (by decide +kernel) rfl
      have hFc := va_free (wc := (W_X3_passes cyI cyJ cyO h_o a_o_bytes a_o_newFar a_o_newTones a_o_newCurrents o_length w_3 o_bytes)) hD hS hA [0, 1] rfl
      refine kc_i (wr := [(a_o_newFar, .inl (cyI, 7, .inl o_newFar)), (a_o_newTones, .inl (cyI, 7, .inl o_newTones))]) (va_runV (As := [.int 45]) (rest := [.int v1, .ref a_o_newTones]) ⟨hx, hb, hml, hown, hts⟩ (c_X3_passes l dC dI cyI cyJ cyO H.size h_o a_o_bytes a_o_newFar a_o_newTones a_o_newCurrents o_length w_3 o_bytes 45 _ (okb2 hw)) (cwV 1 hts (gdV (fun w h => List.mem_cons_of_mem _ h) q_373 q_375 qs_5 q_6 q_376) rfl rfl rfl (by decide +kernel) ⟨Nat.le_of_ble_eq_true rfl, Nat.le_of_ble_eq_true rfl⟩) ⟨(kpre zN_ok hK hPc hDc trivial hS hFc).1, va_recv hK hP (ci := 3) (q0 := 0) rfl rfl, (kpre zN_ok hK hPc hDc trivial hS hFc).2⟩ rfl rfl hl.1 rfl (lv_room (Nat.le_of_ble_eq_true rfl)) dX3_scanRing_59 ⟨Nat.le_of_ble_eq_true rfl, Nat.le_of_ble_eq_true rfl⟩) hP hD hS hFc [0, 1] [2, 3] rfl rfl (by decide +kernel) (by decide +kernel) (fun r_5 w_6 H locs hw hP hD hS => ?_)
      try dsimp only at hw
      have hP : va_P (dC, dI) vwCl (W_X3_scanRing cyI cyJ cyO h_o a_o_bytes a_o_newFar a_o_newTones a_o_newCurrents o_length w_6 o_bytes o_newFar o_newTones) H := hP.sub [2, 3, 0, 1] rfl
      have hD : va_D A (W_X3_scanRing cyI cyJ cyO h_o a_o_bytes a_o_newFar a_o_newTones a_o_newCurrents o_length w_6 o_bytes o_newFar o_newTones) := hD.sub [2, 3, 0, 1] (by decide +kernel) rfl
      clear hPc hDc hFc
      refine lv_if_eq (tgt := 69) hx hb dX3_scanRing_62 (by decide) (fun c_7 => ?_) (fun c_7 => ?_)
      · replace hw := okT hw c_7
        clear c_7
        refine lv_iconst (v := 0) hx hb dX3_scanRing_69 (by decide) ?_
        exact w70 0 v1 w_6 o_newFar o_newTones _ _ hP hD hS _ (lv_sub hl [] rfl) hw
      · replace hw := okF hw c_7
        clear c_7
        refine lv_iconst (v := 1) hx hb dX3_scanRing_65 (by decide) ?_
        refine lv_goto (tgt := 70) hx hb dX3_scanRing_66 (by decide) ?_
        exact w70 1 v1 w_6 o_newFar o_newTones _ _ hP hD hS _ (lv_sub hl [] rfl) hw
    · replace hw := okF hw c_4
      clear c_4
      refine lv_iconst (v := 2) hx hb dX3_scanRing_52 (by decide) ?_
      refine lv_goto (tgt := 70) hx hb dX3_scanRing_53 (by decide) ?_
      exact w70 2 v1 w_3 o_newFar o_newTones _ _ hP hD hS _ (lv_sub hl [] rfl) hw
  unfold f_X3_scanRing at hw
  have hP : va_P (dC, dI) vwCl (W_X3_scanRing cyI cyJ cyO h_o a_o_bytes a_o_newFar a_o_newTones a_o_newCurrents o_length o_place o_bytes o_newFar o_newTones) s.heap := hP
  obtain ⟨H, hH⟩ : ∃ H, H = s.heap := ⟨_, rfl⟩
  obtain ⟨locs, hlo⟩ : ∃ x : List Loc, x = [] := ⟨_, rfl⟩
  have hP : va_P (dC, dI) vwCl (W_X3_scanRing cyI cyJ cyO h_o a_o_bytes a_o_newFar a_o_newTones a_o_newCurrents o_length o_place o_bytes o_newFar o_newTones) H := by rw [hH]; exact hP
  have hS : va_S A s.heap H locs := by rw [hH, hlo]; exact hS
  refine kH hH hlo ?_
  clear hH hlo
  refine lv_aload_n hx hb dX3_scanRing_0 rfl (lv_at hl 0 rfl) ?_
  refine va_get (D := (dC, dI)) (ci := 3) (v := .ref a_o_newFar) (C := RX3) (T := TX3) (N := 6) hx hb hts hi3 hown hK hP 0 rfl rfl 3 (by decide) hq2 (fun _ h9 => h9) rfl dX3_scanRing_1 ?_
  refine lv_iload_n hx hb dX3_scanRing_4 rfl (lv_at hl 1 rfl) ?_
  refine lv_iconst (v := (-1)) hx hb dX3_scanRing_5 (by decide) ?_
  obtain ⟨h_8, hw⟩ := okC hw
  refine va_iast (i := x1) (x := (-1)) hx hb hK hP hD hS 2 0 rfl rfl h_8 dX3_scanRing_6 (fun H locs hP hD hS => ?_)
  have hP : va_P (dC, dI) vwCl (W_X3_scanRing cyI cyJ cyO h_o a_o_bytes a_o_newFar a_o_newTones a_o_newCurrents o_length o_place o_bytes (upd o_newFar x1.toNatClampNeg (-1)) o_newTones) H := hP
  have hD : va_D A (W_X3_scanRing cyI cyJ cyO h_o a_o_bytes a_o_newFar a_o_newTones a_o_newCurrents o_length o_place o_bytes (upd o_newFar x1.toNatClampNeg (-1)) o_newTones) := hD
  refine lv_aload_n hx hb dX3_scanRing_7 rfl (lv_at hl 0 rfl) ?_
  refine lv_bipush (v := 63) hx hb dX3_scanRing_8 (by decide) ?_
  have hPc := hP.sub (ws' := (W_X3_passes cyI cyJ cyO h_o a_o_bytes a_o_newFar a_o_newTones a_o_newCurrents o_length o_place o_bytes)) [0, 1] rfl
  have hDc := hD.sub (ws' := (W_X3_passes cyI cyJ cyO h_o a_o_bytes a_o_newFar a_o_newTones a_o_newCurrents o_length o_place o_bytes)) [0, 1] (by decide +kernel) rfl
  have hFc := va_free (wc := (W_X3_passes cyI cyJ cyO h_o a_o_bytes a_o_newFar a_o_newTones a_o_newCurrents o_length o_place o_bytes)) hD hS hA [0, 1] rfl
  refine kc_i (wr := [(a_o_newFar, .inl (cyI, 7, .inl (upd o_newFar x1.toNatClampNeg (-1)))), (a_o_newTones, .inl (cyI, 7, .inl o_newTones))]) (va_runV (As := [.int 63]) (rest := []) ⟨hx, hb, hml, hown, hts⟩ (c_X3_passes l dC dI cyI cyJ cyO H.size h_o a_o_bytes a_o_newFar a_o_newTones a_o_newCurrents o_length o_place o_bytes 63 _ (okb2 hw)) (cwV 1 hts (gdV (fun w h => List.mem_cons_of_mem _ h) q_373 q_375 qs_5 q_6 q_376) rfl rfl rfl (by decide +kernel) ⟨Nat.le_of_ble_eq_true rfl, Nat.le_of_ble_eq_true rfl⟩) ⟨(kpre zN_ok hK hPc hDc trivial hS hFc).1, va_recv hK hP (ci := 3) (q0 := 0) rfl rfl, (kpre zN_ok hK hPc hDc trivial hS hFc).2⟩ rfl rfl hl.1 rfl (lv_room (Nat.le_of_ble_eq_true rfl)) dX3_scanRing_10 ⟨Nat.le_of_ble_eq_true rfl, Nat.le_of_ble_eq_true rfl⟩) hP hD hS hFc [0, 1] [2, 3] rfl rfl (by decide +kernel) (by decide +kernel) (fun r_9 w_10 H locs hw hP hD hS => ?_)
  try dsimp only at hw
  have hP : va_P (dC, dI) vwCl (W_X3_scanRing cyI cyJ cyO h_o a_o_bytes a_o_newFar a_o_newTones a_o_newCurrents o_length w_10 o_bytes (upd o_newFar x1.toNatClampNeg (-1)) o_newTones) H := hP.sub [2, 3, 0, 1] rfl
  have hD : va_D A (W_X3_scanRing cyI cyJ cyO h_o a_o_bytes a_o_newFar a_o_newTones a_o_newCurrents o_length w_10 o_bytes (upd o_newFar x1.toNatClampNeg (-1)) o_newTones) := hD.sub [2, 3, 0, 1] (by decide +kernel) rfl
  clear hPc hDc hFc
  refine lv_if_ne (tgt := 38) hx hb dX3_scanRing_13 (by decide) (fun c_11 => ?_) (fun c_11 => ?_)
  · replace hw := okF hw c_11
    clear c_11
    exact w38 x1 w_10 (upd o_newFar x1.toNatClampNeg (-1)) o_newTones _ _ hP hD hS _ (lv_sub hl [0, 1] rfl) hw
  · replace hw := okT hw c_11
    clear c_11
    refine lv_aload_n hx hb dX3_scanRing_16 rfl (lv_at hl 0 rfl) ?_
    refine lv_iconst (v := 0) hx hb dX3_scanRing_17 (by decide) ?_
    refine lv_bipush (v := 40) hx hb dX3_scanRing_18 (by decide) ?_
    have hPc := hP.sub (ws' := (W_X3_number cyI cyJ cyO h_o a_o_bytes a_o_newFar a_o_newTones a_o_newCurrents o_length w_10 o_bytes)) [0, 1] rfl
    have hDc := hD.sub (ws' := (W_X3_number cyI cyJ cyO h_o a_o_bytes a_o_newFar a_o_newTones a_o_newCurrents o_length w_10 o_bytes)) [0, 1] (by decide +kernel) rfl
    have hFc := va_free (wc := (W_X3_number cyI cyJ cyO h_o a_o_bytes a_o_newFar a_o_newTones a_o_newCurrents o_length w_10 o_bytes)) hD hS hA [0, 1] rfl
    refine kc_i (wr := [(a_o_newFar, .inl (cyI, 7, .inl (upd o_newFar x1.toNatClampNeg (-1)))), (a_o_newTones, .inl (cyI, 7, .inl o_newTones))]) (va_runV (As := [.int 0, .int 40]) (rest := []) ⟨hx, hb, hml, hown, hts⟩ (c_X3_number l dC dI cyI cyJ cyO H.size h_o a_o_bytes a_o_newFar a_o_newTones a_o_newCurrents o_length w_10 o_bytes 0 40 _ (okb2 hw)) (cwV 2 hts (gdV (fun w h => List.mem_cons_of_mem _ h) q_362 q_364 qs_3 q_6 q_365) rfl rfl rfl (by decide +kernel) ⟨Nat.le_of_ble_eq_true rfl, Nat.le_of_ble_eq_true rfl⟩) ⟨(kpre zN_ok hK hPc hDc trivial hS hFc).1, va_recv hK hP (ci := 3) (q0 := 0) rfl rfl, (kpre zN_ok hK hPc hDc trivial hS hFc).2⟩ rfl rfl hl.1 rfl (lv_room (Nat.le_of_ble_eq_true rfl)) dX3_scanRing_20 ⟨Nat.le_of_ble_eq_true rfl, Nat.le_of_ble_eq_true rfl⟩) hP hD hS hFc [0, 1] [2, 3] rfl rfl (by decide +kernel) (by decide +kernel) (fun r_12 w_13 H locs hw hP hD hS => ?_)
    try dsimp only at hw
    have hP : va_P (dC, dI) vwCl (W_X3_scanRing cyI cyJ cyO h_o a_o_bytes a_o_newFar a_o_newTones a_o_newCurrents o_length w_13 o_bytes (upd o_newFar x1.toNatClampNeg (-1)) o_newTones) H := hP.sub [2, 3, 0, 1] rfl
    have hD : va_D A (W_X3_scanRing cyI cyJ cyO h_o a_o_bytes a_o_newFar a_o_newTones a_o_newCurrents o_length w_13 o_bytes (upd o_newFar x1.toNatClampNeg (-1)) o_newTones) := hD.sub [2, 3, 0, 1] (by decide +kernel) rfl
    clear hPc hDc hFc
    refine lv_istore_n (lv' := [(2, .int r_12), (0, .ref h_o), (1, .int x1)]) hx hb dX3_scanRing_23 rfl hl (by decide) rfl (fun ls hl => ?_)
    refine lv_iload_n hx hb dX3_scanRing_24 rfl (lv_at hl 0 rfl) ?_
    refine lv_iconst (v := (-1)) hx hb dX3_scanRing_25 (by decide) ?_
    refine lv_icmp_ne (tgt := 31) hx hb dX3_scanRing_26 (by decide) (fun c_14 => ?_) (fun c_14 => ?_)
    · replace hw := okF hw c_14
      clear c_14
      refine lv_aload_n hx hb dX3_scanRing_31 rfl (lv_at hl 1 rfl) ?_
      refine va_get (D := (dC, dI)) (ci := 3) (v := .ref a_o_newFar) (C := RX3) (T := TX3) (N := 6) hx hb hts hi3 hown hK hP 0 rfl rfl 3 (by decide) hq2 (fun _ h9 => h9) rfl dX3_scanRing_32 ?_
      refine lv_iload_n hx hb dX3_scanRing_35 rfl (lv_at hl 2 rfl) ?_
      refine lv_iload_n hx hb dX3_scanRing_36 rfl (lv_at hl 0 rfl) ?_
      obtain ⟨h_15, hw⟩ := okC hw
      refine va_iast (i := x1) (x := r_12) hx hb hK hP hD hS 2 0 rfl rfl h_15 dX3_scanRing_37 (fun H locs hP hD hS => ?_)
      have hP : va_P (dC, dI) vwCl (W_X3_scanRing cyI cyJ cyO h_o a_o_bytes a_o_newFar a_o_newTones a_o_newCurrents o_length w_13 o_bytes (upd (upd o_newFar x1.toNatClampNeg (-1)) x1.toNatClampNeg r_12) o_newTones) H := hP
      have hD : va_D A (W_X3_scanRing cyI cyJ cyO h_o a_o_bytes a_o_newFar a_o_newTones a_o_newCurrents o_length w_13 o_bytes (upd (upd o_newFar x1.toNatClampNeg (-1)) x1.toNatClampNeg r_12) o_newTones) := hD
      exact w38 x1 w_13 (upd (upd o_newFar x1.toNatClampNeg (-1)) x1.toNatClampNeg r_12) o_newTones _ _ hP hD hS _ (lv_sub hl [1, 2] rfl) hw
    · replace hw := okT hw c_14
      clear c_14
      refine lv_iconst (v := 0) hx hb dX3_scanRing_29 (by decide) ?_
      rw [hQ]
      exact W.zret (v := 0) hx hb hr (by decide) (fun t ht hW => ⟨⟨0, (w_13, upd o_newFar x1.toNatClampNeg (-1), o_newTones), rfl, okS hw, by rw [ht]; exact hP, va_K.moved hW.alike hK, hD⟩, hS.F ht⟩) hS.2.2 dX3_scanRing_30
/-! ===== X3_scanRings ===== -/
theorem dX3_scanRings_0 : decode cX3_scanRings 0 = .ok (.aload_n 0, 1) := by decide +kernel
theorem dX3_scanRings_1 : decode cX3_scanRings 1 = .ok (.iconst 0, 1) := by decide +kernel
theorem dX3_scanRings_2 : decode cX3_scanRings 2 = .ok (.putfield 19, 3) := by decide +kernel
theorem dX3_scanRings_5 : decode cX3_scanRings 5 = .ok (.iconst 0, 1) := by decide +kernel
theorem dX3_scanRings_6 : decode cX3_scanRings 6 = .ok (.istore_n 1, 1) := by decide +kernel
theorem dX3_scanRings_7 : decode cX3_scanRings 7 = .ok (.iload_n 1, 1) := by decide +kernel
theorem dX3_scanRings_8 : decode cX3_scanRings 8 = .ok (.bipush 6, 2) := by decide +kernel
theorem dX3_scanRings_10 : decode cX3_scanRings 10 = .ok (.if_icmp .gt 17, 3) := by decide +kernel
theorem dX3_scanRings_13 : decode cX3_scanRings 13 = .ok (.aload_n 0, 1) := by decide +kernel
theorem dX3_scanRings_14 : decode cX3_scanRings 14 = .ok (.getfield 22, 3) := by decide +kernel
theorem dX3_scanRings_17 : decode cX3_scanRings 17 = .ok (.iload_n 1, 1) := by decide +kernel
theorem dX3_scanRings_18 : decode cX3_scanRings 18 = .ok (.bipush (-2), 2) := by decide +kernel
theorem dX3_scanRings_20 : decode cX3_scanRings 20 = .ok (.iastore, 1) := by decide +kernel
theorem dX3_scanRings_21 : decode cX3_scanRings 21 = .ok (.iinc 1 1, 3) := by decide +kernel
theorem dX3_scanRings_24 : decode cX3_scanRings 24 = .ok (.goto (-17), 3) := by decide +kernel
theorem dX3_scanRings_27 : decode cX3_scanRings 27 = .ok (.iconst 0, 1) := by decide +kernel
theorem dX3_scanRings_28 : decode cX3_scanRings 28 = .ok (.istore_n 1, 1) := by decide +kernel
theorem dX3_scanRings_29 : decode cX3_scanRings 29 = .ok (.iconst 1, 1) := by decide +kernel
theorem dX3_scanRings_30 : decode cX3_scanRings 30 = .ok (.istore_n 2, 1) := by decide +kernel
theorem dX3_scanRings_31 : decode cX3_scanRings 31 = .ok (.iload_n 2, 1) := by decide +kernel
theorem dX3_scanRings_32 : decode cX3_scanRings 32 = .ok (.bipush 6, 2) := by decide +kernel
theorem dX3_scanRings_34 : decode cX3_scanRings 34 = .ok (.if_icmp .gt 75, 3) := by decide +kernel
theorem dX3_scanRings_37 : decode cX3_scanRings 37 = .ok (.aload_n 0, 1) := by decide +kernel
theorem dX3_scanRings_38 : decode cX3_scanRings 38 = .ok (.iload_n 1, 1) := by decide +kernel
theorem dX3_scanRings_39 : decode cX3_scanRings 39 = .ok (.iconst 1, 1) := by decide +kernel
theorem dX3_scanRings_40 : decode cX3_scanRings 40 = .ok (.iadd, 1) := by decide +kernel
theorem dX3_scanRings_41 : decode cX3_scanRings 41 = .ok (.bipush 6, 2) := by decide +kernel
theorem dX3_scanRings_43 : decode cX3_scanRings 43 = .ok (.invokevirtual 39, 3) := by decide +kernel
theorem dX3_scanRings_46 : decode cX3_scanRings 46 = .ok (.istore_n 1, 1) := by decide +kernel
theorem dX3_scanRings_47 : decode cX3_scanRings 47 = .ok (.iload_n 1, 1) := by decide +kernel
theorem dX3_scanRings_48 : decode cX3_scanRings 48 = .ok (.iconst (-1), 1) := by decide +kernel
theorem dX3_scanRings_49 : decode cX3_scanRings 49 = .ok (.if_icmp .eq 20, 3) := by decide +kernel
theorem dX3_scanRings_52 : decode cX3_scanRings 52 = .ok (.aload_n 0, 1) := by decide +kernel
theorem dX3_scanRings_53 : decode cX3_scanRings 53 = .ok (.bipush 58, 2) := by decide +kernel
theorem dX3_scanRings_55 : decode cX3_scanRings 55 = .ok (.invokevirtual 43, 3) := by decide +kernel
theorem dX3_scanRings_58 : decode cX3_scanRings 58 = .ok (.ifCond .eq 11, 3) := by decide +kernel
theorem dX3_scanRings_61 : decode cX3_scanRings 61 = .ok (.aload_n 0, 1) := by decide +kernel
theorem dX3_scanRings_62 : decode cX3_scanRings 62 = .ok (.iload_n 1, 1) := by decide +kernel
theorem dX3_scanRings_63 : decode cX3_scanRings 63 = .ok (.invokevirtual 47, 3) := by decide +kernel
theorem dX3_scanRings_66 : decode cX3_scanRings 66 = .ok (.ifCond .ne 8, 3) := by decide +kernel
theorem dX3_scanRings_69 : decode cX3_scanRings 69 = .ok (.aload_n 0, 1) := by decide +kernel
theorem dX3_scanRings_70 : decode cX3_scanRings 70 = .ok (.invokevirtual 50, 3) := by decide +kernel
theorem dX3_scanRings_73 : decode cX3_scanRings 73 = .ok (.ireturn, 1) := by decide +kernel
theorem dX3_scanRings_74 : decode cX3_scanRings 74 = .ok (.aload_n 0, 1) := by decide +kernel
theorem dX3_scanRings_75 : decode cX3_scanRings 75 = .ok (.invokevirtual 53, 3) := by decide +kernel
theorem dX3_scanRings_78 : decode cX3_scanRings 78 = .ok (.ifCond .eq 5, 3) := by decide +kernel
theorem dX3_scanRings_81 : decode cX3_scanRings 81 = .ok (.iload_n 2, 1) := by decide +kernel
theorem dX3_scanRings_82 : decode cX3_scanRings 82 = .ok (.ireturn, 1) := by decide +kernel
theorem dX3_scanRings_83 : decode cX3_scanRings 83 = .ok (.iload_n 2, 1) := by decide +kernel
theorem dX3_scanRings_84 : decode cX3_scanRings 84 = .ok (.bipush 6, 2) := by decide +kernel
theorem dX3_scanRings_86 : decode cX3_scanRings 86 = .ok (.if_icmp .eq 12, 3) := by decide +kernel
theorem dX3_scanRings_89 : decode cX3_scanRings 89 = .ok (.aload_n 0, 1) := by decide +kernel
theorem dX3_scanRings_90 : decode cX3_scanRings 90 = .ok (.bipush 59, 2) := by decide +kernel
theorem dX3_scanRings_92 : decode cX3_scanRings 92 = .ok (.invokevirtual 43, 3) := by decide +kernel
theorem dX3_scanRings_95 : decode cX3_scanRings 95 = .ok (.ifCond .ne 8, 3) := by decide +kernel
theorem dX3_scanRings_98 : decode cX3_scanRings 98 = .ok (.aload_n 0, 1) := by decide +kernel
theorem dX3_scanRings_99 : decode cX3_scanRings 99 = .ok (.invokevirtual 50, 3) := by decide +kernel
theorem dX3_scanRings_102 : decode cX3_scanRings 102 = .ok (.ireturn, 1) := by decide +kernel
theorem dX3_scanRings_103 : decode cX3_scanRings 103 = .ok (.iinc 2 1, 3) := by decide +kernel
theorem dX3_scanRings_106 : decode cX3_scanRings 106 = .ok (.goto (-75), 3) := by decide +kernel
theorem dX3_scanRings_109 : decode cX3_scanRings 109 = .ok (.aload_n 0, 1) := by decide +kernel
theorem dX3_scanRings_110 : decode cX3_scanRings 110 = .ok (.invokevirtual 50, 3) := by decide +kernel
theorem dX3_scanRings_113 : decode cX3_scanRings 113 = .ok (.ireturn, 1) := by decide +kernel
abbrev W_X3_scanRings (cyI cyJ cyO : ClassId) (h_o a_o_bytes a_o_newFar a_o_newTones a_o_newCurrents : Nat) (o_length : Int32) (o_place : Int32) (o_bytes : Nat → Int32) (o_newFar : Nat → Int32) (o_newTones : Nat → Int32) : va_W := [(h_o, .inr (3, [.ref a_o_bytes, .int o_length, .int o_place, .ref a_o_newFar, .ref a_o_newTones, .ref a_o_newCurrents])), (a_o_bytes, .inl (cyI, 60, .inl o_bytes)), (a_o_newFar, .inl (cyI, 7, .inl o_newFar)), (a_o_newTones, .inl (cyI, 7, .inl o_newTones))]
def f_X3_scanRings_B98 (o_length : Int32) (o_place : Int32) (o_bytes : Nat → Int32) (o_newFar : Nat → Int32) (o_newTones : Nat → Int32) : Option (Int32 × Int32 × (Nat → Int32) × (Nat → Int32)) :=
  bd2 (f_X3_fault o_length o_place o_bytes) fun r_1 w_2 =>
  some (r_1, w_2, o_newFar, o_newTones)
def f_X3_scanRings_B69 (o_length : Int32) (o_place : Int32) (o_bytes : Nat → Int32) (o_newFar : Nat → Int32) (o_newTones : Nat → Int32) : Option (Int32 × Int32 × (Nat → Int32) × (Nat → Int32)) :=
  bd2 (f_X3_fault o_length o_place o_bytes) fun r_3 w_4 =>
  some (r_3, w_4, o_newFar, o_newTones)
def f_X3_scanRings_L31b (k31 : Int32 → Int32 → Int32 → Int32 → (Nat → Int32) → (Nat → Int32) → (Nat → Int32) → Option (Int32 × Int32 × (Nat → Int32) × (Nat → Int32))) (v1 : Int32) (v2 : Int32) (o_length : Int32) (o_place : Int32) (o_bytes : Nat → Int32) (o_newFar : Nat → Int32) (o_newTones : Nat → Int32) : Option (Int32 × Int32 × (Nat → Int32) × (Nat → Int32)) :=
  if 6 < v2 then
    bd2 (f_X3_fault o_length o_place o_bytes) fun r_5 w_6 =>
    some (r_5, w_6, o_newFar, o_newTones)
  else
    bd2 (f_X3_number (v1 + 1) 6 o_length o_place o_bytes) fun r_7 w_8 =>
    if r_7 = (-1) then
      f_X3_scanRings_B69 o_length w_8 o_bytes o_newFar o_newTones
    else
      bd2 (f_X3_passes 58 o_length w_8 o_bytes) fun r_9 w_10 =>
      if r_9 = 0 then
        f_X3_scanRings_B69 o_length w_10 o_bytes o_newFar o_newTones
      else
        bd4 (f_X3_scanRing r_7 o_length w_10 o_bytes o_newFar o_newTones) fun r_11 w_12 w_13 w_14 =>
        if r_11 = 0 then
          f_X3_scanRings_B69 o_length w_12 o_bytes w_13 w_14
        else
          bd2 (f_X3_isAtEnd o_length w_12 o_bytes) fun r_15 w_16 =>
          if r_15 = 0 then
            if v2 = 6 then
              f_X3_scanRings_B98 o_length w_16 o_bytes w_13 w_14
            else
              bd2 (f_X3_passes 59 o_length w_16 o_bytes) fun r_17 w_18 =>
              if r_17 = 0 then
                f_X3_scanRings_B98 o_length w_18 o_bytes w_13 w_14
              else
                nm (v2 + 1) fun x_19 =>
                k31 r_7 x_19 o_length w_18 o_bytes w_13 w_14
          else
            some (v2, w_16, w_13, w_14)
def f_X3_scanRings_L31 : Nat → Int32 → Int32 → Int32 → Int32 → (Nat → Int32) → (Nat → Int32) → (Nat → Int32) → Option (Int32 × Int32 × (Nat → Int32) × (Nat → Int32))
  | 0 => fun _ _ _ _ _ _ _ => none
  | n + 1 => f_X3_scanRings_L31b (f_X3_scanRings_L31 n)
def f_X3_scanRings_L7b (k7 : Int32 → Int32 → Int32 → (Nat → Int32) → (Nat → Int32) → (Nat → Int32) → Option (Int32 × Int32 × (Nat → Int32) × (Nat → Int32))) (v1 : Int32) (o_length : Int32) (o_place : Int32) (o_bytes : Nat → Int32) (o_newFar : Nat → Int32) (o_newTones : Nat → Int32) : Option (Int32 × Int32 × (Nat → Int32) × (Nat → Int32)) :=
  if 6 < v1 then
    f_X3_scanRings_L31 FU 0 1 o_length o_place o_bytes o_newFar o_newTones
  else
    chk (¬ (v1 < 0 ∨ 7 ≤ v1.toNatClampNeg)) <|
    nm (v1 + 1) fun x_20 =>
    k7 x_20 o_length o_place o_bytes (upd o_newFar v1.toNatClampNeg (-2)) o_newTones
def f_X3_scanRings_L7 : Nat → Int32 → Int32 → Int32 → (Nat → Int32) → (Nat → Int32) → (Nat → Int32) → Option (Int32 × Int32 × (Nat → Int32) × (Nat → Int32))
  | 0 => fun _ _ _ _ _ _ => none
  | n + 1 => f_X3_scanRings_L7b (f_X3_scanRings_L7 n)
def f_X3_scanRings (o_length : Int32) (o_place : Int32) (o_bytes : Nat → Int32) (o_newFar : Nat → Int32) (o_newTones : Nat → Int32) : Option (Int32 × Int32 × (Nat → Int32) × (Nat → Int32)) :=
  f_X3_scanRings_L7 FU 0 o_length 0 o_bytes o_newFar o_newTones
abbrev rm_X3_scanRings : Room := { frames := 4, cells := 0, slots := 0, locals := 83 }
set_option maxRecDepth 100000 in
set_option maxHeartbeats 4000000 in
theorem c_X3_scanRings (l : Launch) (dC : Nat → ClassId) (dI : Nat → Nat → Nat) (cyI cyJ cyO : ClassId) (sz : Nat) (h_o a_o_bytes a_o_newFar a_o_newTones a_o_newCurrents : Nat) (o_length : Int32) (o_place : Int32) (o_bytes : Nat → Int32) (o_newFar : Nat → Int32) (o_newTones : Nat → Int32) (post : (Int32 × Int32 × (Nat → Int32) × (Nat → Int32)) → Prop) (hf : okP (f_X3_scanRings o_length o_place o_bytes o_newFar o_newTones) post) : Ci l (dC, dI) (tyL cyI cyJ cyO) yX3_scanRings wsX3_scanRings rm_X3_scanRings [.ref h_o] sz (W_X3_scanRings cyI cyJ cyO h_o a_o_bytes a_o_newFar a_o_newTones a_o_newCurrents o_length o_place o_bytes o_newFar o_newTones) zN (fun r u => post (r, u)) (fun u => (W_X3_scanRings cyI cyJ cyO h_o a_o_bytes a_o_newFar a_o_newTones a_o_newCurrents o_length u.1 o_bytes u.2.1 u.2.2)) := by
  refine Met.ofW (cc := cX3_scanRings) (maxL := 3) (ret := (some .int)) (by decide) rfl ?_
  intro p e s m args below meth c s₁ B hml hv
  obtain ⟨rfl, hsz, hP, hK, hD0, hZ⟩ := hv
  have hx := B.exec
  have hb := B.bytes
  have hr := B.returns
  have hts := atoms_spec (ws := wsX3_scanRings) B.pre
  have hown : s.vm.findClass RX3 = some m.cls := findClass_of_methodNamed B.named
  have hlocks := B.notSynchronized
  subst hsz
  have hD := hD0.self (sz := s.heap.size)
  generalize hAe : va_A (W_X3_scanRings cyI cyJ cyO h_o a_o_bytes a_o_newFar a_o_newTones a_o_newCurrents o_length o_place o_bytes o_newFar o_newTones) s.heap.size = A at hD hZ ⊢
  have hA : ∀ q : Nat, s.heap.size ≤ q → A q := fun q h => by rw [← hAe]; exact Or.inr h
  clear hAe hD0
  have hS : va_S A s.heap s.heap [] := va_S.rf
  have hl := lv_entry ([.ref h_o]) (n := 3) (Nat.le_of_ble_eq_true rfl)
  rw [lg_entry_eq]
  generalize (lg_sl ([.ref h_o]) ++ List.replicate (3 - (lg_sl ([.ref h_o])).length) Slot.unset).toArray = ls at hl ⊢
  have hl : lv_has ls 3 [(0, .ref h_o)] := hl
  refine kW (fun Q hQ => ?_)
  have hq0 := hts _ (List.mem_cons_of_mem _ q_234)
  have hi3 : ∀ w ∈ u_ws RX3 TX3 6, w ∈ wsX3_scanRings := fun w h => List.mem_cons_of_mem _ (inX3 w h)
  have hq2 := hts _ (List.mem_cons_of_mem _ q_233)
  have hw := hf
  have w98 : ∀ (o_place : Int32) (o_newFar : Nat → Int32) (o_newTones : Nat → Int32) (H : Heap) (locs : List Loc), va_P (dC, dI) vwCl (W_X3_scanRings cyI cyJ cyO h_o a_o_bytes a_o_newFar a_o_newTones a_o_newCurrents o_length o_place o_bytes o_newFar o_newTones) H → va_D A (W_X3_scanRings cyI cyJ cyO h_o a_o_bytes a_o_newFar a_o_newTones a_o_newCurrents o_length o_place o_bytes o_newFar o_newTones) → va_S A s.heap H locs → ∀ (ls : Array Slot), lv_has ls 3 [(0, .ref h_o)] → okP (f_X3_scanRings_B98 o_length o_place o_bytes o_newFar o_newTones) post → W p l e (headSpec wsX3_scanRings rm_X3_scanRings).room s m ([.ref h_o] : List Value).toArray below meth c H locs 0 0 Q (F0 m 98 ls []) := by
    intro o_place o_newFar o_newTones H locs hP hD hS ls hl hw
    unfold f_X3_scanRings_B98 at hw
    refine lv_aload_n hx hb dX3_scanRings_98 rfl (lv_at hl 0 rfl) ?_
    have hPc := hP.sub (ws' := (W_X3_fault cyI cyJ cyO h_o a_o_bytes a_o_newFar a_o_newTones a_o_newCurrents o_length o_place o_bytes)) [0, 1] rfl
    have hDc := hD.sub (ws' := (W_X3_fault cyI cyJ cyO h_o a_o_bytes a_o_newFar a_o_newTones a_o_newCurrents o_length o_place o_bytes)) [0, 1] (by decide +kernel) rfl
    have hFc := va_free (wc := (W_X3_fault cyI cyJ cyO h_o a_o_bytes a_o_newFar a_o_newTones a_o_newCurrents o_length o_place o_bytes)) hD hS hA [0, 1] rfl
    refine kc_i (wr := [(a_o_newFar, .inl (cyI, 7, .inl o_newFar)), (a_o_newTones, .inl (cyI, 7, .inl o_newTones))]) (va_runV (As := []) (rest := []) ⟨hx, hb, hml, hown, hts⟩ (c_X3_fault l dC dI cyI cyJ cyO H.size h_o a_o_bytes a_o_newFar a_o_newTones a_o_newCurrents o_length o_place o_bytes _ (okb2 hw)) (cwV 0 hts (gdV (fun w h => List.mem_cons_of_mem _ h) q_385 q_387 qs_8 q_6 q_388) rfl rfl rfl (by decide +kernel) ⟨Nat.le_of_ble_eq_true rfl, Nat.le_of_ble_eq_true rfl⟩) ⟨(kpre zN_ok hK hPc hDc trivial hS hFc).1, va_recv hK hP (ci := 3) (q0 := 0) rfl rfl, (kpre zN_ok hK hPc hDc trivial hS hFc).2⟩ rfl rfl hl.1 rfl (lv_room (Nat.le_of_ble_eq_true rfl)) dX3_scanRings_99 ⟨Nat.le_of_ble_eq_true rfl, Nat.le_of_ble_eq_true rfl⟩) hP hD hS hFc [0, 1] [2, 3] rfl rfl (by decide +kernel) (by decide +kernel) (fun r_1 w_2 H locs hw hP hD hS => ?_)
    try dsimp only at hw
    have hP : va_P (dC, dI) vwCl (W_X3_scanRings cyI cyJ cyO h_o a_o_bytes a_o_newFar a_o_newTones a_o_newCurrents o_length w_2 o_bytes o_newFar o_newTones) H := hP.sub [2, 3, 0, 1] rfl
    have hD : va_D A (W_X3_scanRings cyI cyJ cyO h_o a_o_bytes a_o_newFar a_o_newTones a_o_newCurrents o_length w_2 o_bytes o_newFar o_newTones) := hD.sub [2, 3, 0, 1] (by decide +kernel) rfl
    clear hPc hDc hFc
    rw [hQ]
    exact W.iret (v := r_1) hx hb hr (fun t ht hW => ⟨⟨r_1, (w_2, o_newFar, o_newTones), rfl, okS hw, by rw [ht]; exact hP, va_K.moved hW.alike hK, hD⟩, hS.F ht⟩) hS.2.2 dX3_scanRings_102
  have w69 : ∀ (o_place : Int32) (o_newFar : Nat → Int32) (o_newTones : Nat → Int32) (H : Heap) (locs : List Loc), va_P (dC, dI) vwCl (W_X3_scanRings cyI cyJ cyO h_o a_o_bytes a_o_newFar a_o_newTones a_o_newCurrents o_length o_place o_bytes o_newFar o_newTones) H → va_D A (W_X3_scanRings cyI cyJ cyO h_o a_o_bytes a_o_newFar a_o_newTones a_o_newCurrents o_length o_place o_bytes o_newFar o_newTones) → va_S A s.heap H locs → ∀ (ls : Array Slot), lv_has ls 3 [(0, .ref h_o)] → okP (f_X3_scanRings_B69 o_length o_place o_bytes o_newFar o_newTones) post → W p l e (headSpec wsX3_scanRings rm_X3_scanRings).room s m ([.ref h_o] : List Value).toArray below meth c H locs 0 0 Q (F0 m 69 ls []) := by
    intro o_place o_newFar o_newTones H locs hP hD hS ls hl hw
    unfold f_X3_scanRings_B69 at hw
    refine lv_aload_n hx hb dX3_scanRings_69 rfl (lv_at hl 0 rfl) ?_
    have hPc := hP.sub (ws' := (W_X3_fault cyI cyJ cyO h_o a_o_bytes a_o_newFar a_o_newTones a_o_newCurrents o_length o_place o_bytes)) [0, 1] rfl
    have hDc := hD.sub (ws' := (W_X3_fault cyI cyJ cyO h_o a_o_bytes a_o_newFar a_o_newTones a_o_newCurrents o_length o_place o_bytes)) [0, 1] (by decide +kernel) rfl
    have hFc := va_free (wc := (W_X3_fault cyI cyJ cyO h_o a_o_bytes a_o_newFar a_o_newTones a_o_newCurrents o_length o_place o_bytes)) hD hS hA [0, 1] rfl
    refine kc_i (wr := [(a_o_newFar, .inl (cyI, 7, .inl o_newFar)), (a_o_newTones, .inl (cyI, 7, .inl o_newTones))]) (va_runV (As := []) (rest := []) ⟨hx, hb, hml, hown, hts⟩ (c_X3_fault l dC dI cyI cyJ cyO H.size h_o a_o_bytes a_o_newFar a_o_newTones a_o_newCurrents o_length o_place o_bytes _ (okb2 hw)) (cwV 0 hts (gdV (fun w h => List.mem_cons_of_mem _ h) q_385 q_387 qs_8 q_6 q_388) rfl rfl rfl (by decide +kernel) ⟨Nat.le_of_ble_eq_true rfl, Nat.le_of_ble_eq_true rfl⟩) ⟨(kpre zN_ok hK hPc hDc trivial hS hFc).1, va_recv hK hP (ci := 3) (q0 := 0) rfl rfl, (kpre zN_ok hK hPc hDc trivial hS hFc).2⟩ rfl rfl hl.1 rfl (lv_room (Nat.le_of_ble_eq_true rfl)) dX3_scanRings_70 ⟨Nat.le_of_ble_eq_true rfl, Nat.le_of_ble_eq_true rfl⟩) hP hD hS hFc [0, 1] [2, 3] rfl rfl (by decide +kernel) (by decide +kernel) (fun r_3 w_4 H locs hw hP hD hS => ?_)
    try dsimp only at hw
    have hP : va_P (dC, dI) vwCl (W_X3_scanRings cyI cyJ cyO h_o a_o_bytes a_o_newFar a_o_newTones a_o_newCurrents o_length w_4 o_bytes o_newFar o_newTones) H := hP.sub [2, 3, 0, 1] rfl
    have hD : va_D A (W_X3_scanRings cyI cyJ cyO h_o a_o_bytes a_o_newFar a_o_newTones a_o_newCurrents o_length w_4 o_bytes o_newFar o_newTones) := hD.sub [2, 3, 0, 1] (by decide +kernel) rfl
    clear hPc hDc hFc
    rw [hQ]
    exact W.iret (v := r_3) hx hb hr (fun t ht hW => ⟨⟨r_3, (w_4, o_newFar, o_newTones), rfl, okS hw, by rw [ht]; exact hP, va_K.moved hW.alike hK, hD⟩, hS.F ht⟩) hS.2.2 dX3_scanRings_73
  have w31 : ∀ (n : Nat), ∀ (v1 : Int32) (v2 : Int32) (o_place : Int32) (o_newFar : Nat → Int32) (o_newTones : Nat → Int32) (H : Heap) (locs : List Loc), va_P (dC, dI) vwCl (W_X3_scanRings cyI cyJ cyO h_o a_o_bytes a_o_newFar a_o_newTones a_o_newCurrents o_length o_place o_bytes o_newFar o_newTones) H → va_D A (W_X3_scanRings cyI cyJ cyO h_o a_o_bytes a_o_newFar a_o_newTones a_o_newCurrents o_length o_place o_bytes o_newFar o_newTones) → va_S A s.heap H locs → ∀ (ls : Array Slot), lv_has ls 3 [(0, .ref h_o), (1, .int v1), (2, .int v2)] → okP (f_X3_scanRings_L31 n v1 v2 o_length o_place o_bytes o_newFar o_newTones) post → W p l e (headSpec wsX3_scanRings rm_X3_scanRings).room s m ([.ref h_o] : List Value).toArray below meth c H locs 0 0 Q (F0 m 31 ls []) := by
    intro n
    induction n with
    | zero =>
      intro v1 v2 o_place o_newFar o_newTones H locs hP hD hS ls hl hw
      exact (ok0 hw).elim
    | succ n31 ih31 =>
      intro v1 v2 o_place o_newFar o_newTones H locs hP hD hS ls hl hw
      replace hw : okP (f_X3_scanRings_L31b (f_X3_scanRings_L31 n31) v1 v2 o_length o_place o_bytes o_newFar o_newTones) post := hw
      unfold f_X3_scanRings_L31b at hw
      refine lv_iload_n hx hb dX3_scanRings_31 rfl (lv_at hl 2 rfl) ?_
      refine lv_bipush (v := 6) hx hb dX3_scanRings_32 (by decide) ?_
      refine lv_icmp_gt (tgt := 109) hx hb dX3_scanRings_34 (by decide) (fun c_5 => ?_) (fun c_5 => ?_)
      · replace hw := okT hw c_5
        clear c_5
        refine lv_aload_n hx hb dX3_scanRings_109 rfl (lv_at hl 0 rfl) ?_
        have hPc := hP.sub (ws' := (W_X3_fault cyI cyJ cyO h_o a_o_bytes a_o_newFar a_o_newTones a_o_newCurrents o_length o_place o_bytes)) [0, 1] rfl
        have hDc := hD.sub (ws' := (W_X3_fault cyI cyJ cyO h_o a_o_bytes a_o_newFar a_o_newTones a_o_newCurrents o_length o_place o_bytes)) [0, 1] (by decide +kernel) rfl
        have hFc := va_free (wc := (W_X3_fault cyI cyJ cyO h_o a_o_bytes a_o_newFar a_o_newTones a_o_newCurrents o_length o_place o_bytes)) hD hS hA [0, 1] rfl
        refine kc_i (wr := [(a_o_newFar, .inl (cyI, 7, .inl o_newFar)), (a_o_newTones, .inl (cyI, 7, .inl o_newTones))]) (va_runV (As := []) (rest := []) ⟨hx, hb, hml, hown, hts⟩ (c_X3_fault l dC dI cyI cyJ cyO H.size h_o a_o_bytes a_o_newFar a_o_newTones a_o_newCurrents o_length o_place o_bytes _ (okb2 hw)) (cwV 0 hts (gdV (fun w h => List.mem_cons_of_mem _ h) q_385 q_387 qs_8 q_6 q_388) rfl rfl rfl (by decide +kernel) ⟨Nat.le_of_ble_eq_true rfl, Nat.le_of_ble_eq_true rfl⟩) ⟨(kpre zN_ok hK hPc hDc trivial hS hFc).1, va_recv hK hP (ci := 3) (q0 := 0) rfl rfl, (kpre zN_ok hK hPc hDc trivial hS hFc).2⟩ rfl rfl hl.1 rfl (lv_room (Nat.le_of_ble_eq_true rfl)) dX3_scanRings_110 ⟨Nat.le_of_ble_eq_true rfl, Nat.le_of_ble_eq_true rfl⟩) hP hD hS hFc [0, 1] [2, 3] rfl rfl (by decide +kernel) (by decide +kernel) (fun r_6 w_7 H locs hw hP hD hS => ?_)
        try dsimp only at hw
        have hP : va_P (dC, dI) vwCl (W_X3_scanRings cyI cyJ cyO h_o a_o_bytes a_o_newFar a_o_newTones a_o_newCurrents o_length w_7 o_bytes o_newFar o_newTones) H := hP.sub [2, 3, 0, 1] rfl
        have hD : va_D A (W_X3_scanRings cyI cyJ cyO h_o a_o_bytes a_o_newFar a_o_newTones a_o_newCurrents o_length w_7 o_bytes o_newFar o_newTones) := hD.sub [2, 3, 0, 1] (by decide +kernel) rfl
        clear hPc hDc hFc
        rw [hQ]
        exact W.iret (v := r_6) hx hb hr (fun t ht hW => ⟨⟨r_6, (w_7, o_newFar, o_newTones), rfl, okS hw, by rw [ht]; exact hP, va_K.moved hW.alike hK, hD⟩, hS.F ht⟩) hS.2.2 dX3_scanRings_113
      · replace hw := okF hw c_5
        clear c_5
        refine lv_aload_n hx hb dX3_scanRings_37 rfl (lv_at hl 0 rfl) ?_
        refine lv_iload_n hx hb dX3_scanRings_38 rfl (lv_at hl 1 rfl) ?_
        refine lv_iconst (v := 1) hx hb dX3_scanRings_39 (by decide) ?_
        refine lv_iadd hx hb dX3_scanRings_40 ?_
        refine lv_bipush (v := 6) hx hb dX3_scanRings_41 (by decide) ?_
        have hPc := hP.sub (ws' := (W_X3_number cyI cyJ cyO h_o a_o_bytes a_o_newFar a_o_newTones a_o_newCurrents o_length o_place o_bytes)) [0, 1] rfl
        have hDc := hD.sub (ws' := (W_X3_number cyI cyJ cyO h_o a_o_bytes a_o_newFar a_o_newTones a_o_newCurrents o_length o_place o_bytes)) [0, 1] (by decide +kernel) rfl
        have hFc := va_free (wc := (W_X3_number cyI cyJ cyO h_o a_o_bytes a_o_newFar a_o_newTones a_o_newCurrents o_length o_place o_bytes)) hD hS hA [0, 1] rfl
        refine kc_i (wr := [(a_o_newFar, .inl (cyI, 7, .inl o_newFar)), (a_o_newTones, .inl (cyI, 7, .inl o_newTones))]) (va_runV (As := [.int (v1 + 1), .int 6]) (rest := []) ⟨hx, hb, hml, hown, hts⟩ (c_X3_number l dC dI cyI cyJ cyO H.size h_o a_o_bytes a_o_newFar a_o_newTones a_o_newCurrents o_length o_place o_bytes (v1 + 1) 6 _ (okb2 hw)) (cwV 2 hts (gdV (fun w h => List.mem_cons_of_mem _ h) q_362 q_364 qs_3 q_6 q_365) rfl rfl rfl (by decide +kernel) ⟨Nat.le_of_ble_eq_true rfl, Nat.le_of_ble_eq_true rfl⟩) ⟨(kpre zN_ok hK hPc hDc trivial hS hFc).1, va_recv hK hP (ci := 3) (q0 := 0) rfl rfl, (kpre zN_ok hK hPc hDc trivial hS hFc).2⟩ rfl rfl hl.1 rfl (lv_room (Nat.le_of_ble_eq_true rfl)) dX3_scanRings_43 ⟨Nat.le_of_ble_eq_true rfl, Nat.le_of_ble_eq_true rfl⟩) hP hD hS hFc [0, 1] [2, 3] rfl rfl (by decide +kernel) (by decide +kernel) (fun r_8 w_9 H locs hw hP hD hS => ?_)
        try dsimp only at hw
        have hP : va_P (dC, dI) vwCl (W_X3_scanRings cyI cyJ cyO h_o a_o_bytes a_o_newFar a_o_newTones a_o_newCurrents o_length w_9 o_bytes o_newFar o_newTones) H := hP.sub [2, 3, 0, 1] rfl
        have hD : va_D A (W_X3_scanRings cyI cyJ cyO h_o a_o_bytes a_o_newFar a_o_newTones a_o_newCurrents o_length w_9 o_bytes o_newFar o_newTones) := hD.sub [2, 3, 0, 1] (by decide +kernel) rfl
        clear hPc hDc hFc
        refine lv_istore_n (lv' := [(1, .int r_8), (0, .ref h_o), (2, .int v2)]) hx hb dX3_scanRings_46 rfl hl (by decide) rfl (fun ls hl => ?_)
        refine lv_iload_n hx hb dX3_scanRings_47 rfl (lv_at hl 0 rfl) ?_
        refine lv_iconst (v := (-1)) hx hb dX3_scanRings_48 (by decide) ?_
        refine lv_icmp_eq (tgt := 69) hx hb dX3_scanRings_49 (by decide) (fun c_10 => ?_) (fun c_10 => ?_)
        · replace hw := okT hw c_10
          clear c_10
          exact w69 w_9 o_newFar o_newTones _ _ hP hD hS _ (lv_sub hl [1] rfl) hw
        · replace hw := okF hw c_10
          clear c_10
          refine lv_aload_n hx hb dX3_scanRings_52 rfl (lv_at hl 1 rfl) ?_
          refine lv_bipush (v := 58) hx hb dX3_scanRings_53 (by decide) ?_
          have hPc := hP.sub (ws' := (W_X3_passes cyI cyJ cyO h_o a_o_bytes a_o_newFar a_o_newTones a_o_newCurrents o_length w_9 o_bytes)) [0, 1] rfl
          have hDc := hD.sub (ws' := (W_X3_passes cyI cyJ cyO h_o a_o_bytes a_o_newFar a_o_newTones a_o_newCurrents o_length w_9 o_bytes)) [0, 1] (by decide +kernel) rfl
          have hFc := va_free (wc := (W_X3_passes cyI cyJ cyO h_o a_o_bytes a_o_newFar a_o_newTones a_o_newCurrents o_length w_9 o_bytes)) hD hS hA [0, 1] rfl
          refine kc_i (wr := [(a_o_newFar, .inl (cyI, 7, .inl o_newFar)), (a_o_newTones, .inl (cyI, 7, .inl o_newTones))]) (va_runV (As := [.int 58]) (rest := []) ⟨hx, hb, hml, hown, hts⟩ (c_X3_passes l dC dI cyI cyJ cyO H.size h_o a_o_bytes a_o_newFar a_o_newTones a_o_newCurrents o_length w_9 o_bytes 58 _ (okb2 hw)) (cwV 1 hts (gdV (fun w h => List.mem_cons_of_mem _ h) q_373 q_375 qs_5 q_6 q_376) rfl rfl rfl (by decide +kernel) ⟨Nat.le_of_ble_eq_true rfl, Nat.le_of_ble_eq_true rfl⟩) ⟨(kpre zN_ok hK hPc hDc trivial hS hFc).1, va_recv hK hP (ci := 3) (q0 := 0) rfl rfl, (kpre zN_ok hK hPc hDc trivial hS hFc).2⟩ rfl rfl hl.1 rfl (lv_room (Nat.le_of_ble_eq_true rfl)) dX3_scanRings_55 ⟨Nat.le_of_ble_eq_true rfl, Nat.le_of_ble_eq_true rfl⟩) hP hD hS hFc [0, 1] [2, 3] rfl rfl (by decide +kernel) (by decide +kernel) (fun r_11 w_12 H locs hw hP hD hS => ?_)
          try dsimp only at hw
          have hP : va_P (dC, dI) vwCl (W_X3_scanRings cyI cyJ cyO h_o a_o_bytes a_o_newFar a_o_newTones a_o_newCurrents o_length w_12 o_bytes o_newFar o_newTones) H := hP.sub [2, 3, 0, 1] rfl
          have hD : va_D A (W_X3_scanRings cyI cyJ cyO h_o a_o_bytes a_o_newFar a_o_newTones a_o_newCurrents o_length w_12 o_bytes o_newFar o_newTones) := hD.sub [2, 3, 0, 1] (by decide +kernel) rfl
          clear hPc hDc hFc
          refine lv_if_eq (tgt := 69) hx hb dX3_scanRings_58 (by decide) (fun c_13 => ?_) (fun c_13 => ?_)
          · replace hw := okT hw c_13
            clear c_13
            exact w69 w_12 o_newFar o_newTones _ _ hP hD hS _ (lv_sub hl [1] rfl) hw
          · replace hw := okF hw c_13
            clear c_13
            refine lv_aload_n hx hb dX3_scanRings_61 rfl (lv_at hl 1 rfl) ?_
            refine lv_iload_n hx hb dX3_scanRings_62 rfl (lv_at hl 0 rfl) ?_
            have hPc := hP.sub (ws' := (W_X3_scanRing cyI cyJ cyO h_o a_o_bytes a_o_newFar a_o_newTones a_o_newCurrents o_length w_12 o_bytes o_newFar o_newTones)) [0, 1, 2, 3] rfl
            have hDc := hD.sub (ws' := (W_X3_scanRing cyI cyJ cyO h_o a_o_bytes a_o_newFar a_o_newTones a_o_newCurrents o_length w_12 o_bytes o_newFar o_newTones)) [0, 1, 2, 3] (by decide +kernel) rfl
            have hFc := va_free (wc := (W_X3_scanRing cyI cyJ cyO h_o a_o_bytes a_o_newFar a_o_newTones a_o_newCurrents o_length w_12 o_bytes o_newFar o_newTones)) hD hS hA [0, 1, 2, 3] rfl
            refine kc_i (wr := []) (va_runV (As := [.int r_8]) (rest := []) ⟨hx, hb, hml, hown, hts⟩ (c_X3_scanRing l dC dI cyI cyJ cyO H.size h_o a_o_bytes a_o_newFar a_o_newTones a_o_newCurrents o_length w_12 o_bytes o_newFar o_newTones r_8 _ (okb4 hw)) (cwV 1 hts (gdV (fun w h => List.mem_cons_of_mem _ h) q_381 q_383 qs_7 q_6 q_384) rfl rfl rfl (by decide +kernel) ⟨Nat.le_of_ble_eq_true rfl, Nat.le_of_ble_eq_true rfl⟩) ⟨(kpre zN_ok hK hPc hDc trivial hS hFc).1, va_recv hK hP (ci := 3) (q0 := 0) rfl rfl, (kpre zN_ok hK hPc hDc trivial hS hFc).2⟩ rfl rfl hl.1 rfl (lv_room (Nat.le_of_ble_eq_true rfl)) dX3_scanRings_63 ⟨Nat.le_of_ble_eq_true rfl, Nat.le_of_ble_eq_true rfl⟩) hP hD hS hFc [0, 1, 2, 3] [] rfl rfl (by decide +kernel) (by decide +kernel) (fun r_14 u H locs hw hP hD hS => ?_)
            obtain ⟨w_15, w_16, w_17⟩ := u
            try dsimp only at hw
            have hP : va_P (dC, dI) vwCl (W_X3_scanRings cyI cyJ cyO h_o a_o_bytes a_o_newFar a_o_newTones a_o_newCurrents o_length w_15 o_bytes w_16 w_17) H := hP.sub [0, 1, 2, 3] rfl
            have hD : va_D A (W_X3_scanRings cyI cyJ cyO h_o a_o_bytes a_o_newFar a_o_newTones a_o_newCurrents o_length w_15 o_bytes w_16 w_17) := hD.sub [0, 1, 2, 3] (by decide +kernel) rfl
            clear hPc hDc hFc
            refine lv_if_ne (tgt := 74) hx hb dX3_scanRings_66 (by decide) (fun c_18 => ?_) (fun c_18 => ?_)
            · replace hw := okF hw c_18
              clear c_18
              refine lv_aload_n hx hb dX3_scanRings_74 rfl (lv_at hl 1 rfl) ?_
              have hPc := hP.sub (ws' := (W_X3_isAtEnd cyI cyJ cyO h_o a_o_bytes a_o_newFar a_o_newTones a_o_newCurrents o_length w_15 o_bytes)) [0, 1] rfl
              have hDc := hD.sub (ws' := (W_X3_isAtEnd cyI cyJ cyO h_o a_o_bytes a_o_newFar a_o_newTones a_o_newCurrents o_length w_15 o_bytes)) [0, 1] (by decide +kernel) rfl
              have hFc := va_free (wc := (W_X3_isAtEnd cyI cyJ cyO h_o a_o_bytes a_o_newFar a_o_newTones a_o_newCurrents o_length w_15 o_bytes)) hD hS hA [0, 1] rfl
              refine kc_i (wr := [(a_o_newFar, .inl (cyI, 7, .inl w_16)), (a_o_newTones, .inl (cyI, 7, .inl w_17))]) (va_runV (As := []) (rest := []) ⟨hx, hb, hml, hown, hts⟩ (c_X3_isAtEnd l dC dI cyI cyJ cyO H.size h_o a_o_bytes a_o_newFar a_o_newTones a_o_newCurrents o_length w_15 o_bytes _ (okb2 hw)) (cwV 0 hts (gdV (fun w h => List.mem_cons_of_mem _ h) q_377 q_379 qs_6 q_6 q_380) rfl rfl rfl (by decide +kernel) ⟨Nat.le_of_ble_eq_true rfl, Nat.le_of_ble_eq_true rfl⟩) ⟨(kpre zN_ok hK hPc hDc trivial hS hFc).1, va_recv hK hP (ci := 3) (q0 := 0) rfl rfl, (kpre zN_ok hK hPc hDc trivial hS hFc).2⟩ rfl rfl hl.1 rfl (lv_room (Nat.le_of_ble_eq_true rfl)) dX3_scanRings_75 ⟨Nat.le_of_ble_eq_true rfl, Nat.le_of_ble_eq_true rfl⟩) hP hD hS hFc [0, 1] [2, 3] rfl rfl (by decide +kernel) (by decide +kernel) (fun r_19 w_20 H locs hw hP hD hS => ?_)
              try dsimp only at hw
              have hP : va_P (dC, dI) vwCl (W_X3_scanRings cyI cyJ cyO h_o a_o_bytes a_o_newFar a_o_newTones a_o_newCurrents o_length w_20 o_bytes w_16 w_17) H := hP.sub [2, 3, 0, 1] rfl
              have hD : va_D A (W_X3_scanRings cyI cyJ cyO h_o a_o_bytes a_o_newFar a_o_newTones a_o_newCurrents o_length w_20 o_bytes w_16 w_17) := hD.sub [2, 3, 0, 1] (by decide +kernel) rfl
              clear hPc hDc hFc
              refine lv_if_eq (tgt := 83) hx hb dX3_scanRings_78 (by decide) (fun c_21 => ?_) (fun c_21 => ?_)
              · replace hw := okT hw c_21
                clear c_21
                refine lv_iload_n hx hb dX3_scanRings_83 rfl (lv_at hl 2 rfl) ?_
                refine lv_bipush (v := 6) hx hb dX3_scanRings_84 (by decide) ?_
                refine lv_icmp_eq (tgt := 98) hx hb dX3_scanRings_86 (by decide) (fun c_22 => ?_) (fun c_22 => ?_)
                · replace hw := okT hw c_22
                  clear c_22
                  exact w98 w_20 w_16 w_17 _ _ hP hD hS _ (lv_sub hl [1] rfl) hw
                · replace hw := okF hw c_22
                  clear c_22
                  refine lv_aload_n hx hb dX3_scanRings_89 rfl (lv_at hl 1 rfl) ?_
                  refine lv_bipush (v := 59) hx hb dX3_scanRings_90 (by decide) ?_
                  have hPc := hP.sub (ws' := (W_X3_passes cyI cyJ cyO h_o a_o_bytes a_o_newFar a_o_newTones a_o_newCurrents o_length w_20 o_bytes)) [0, 1] rfl
                  have hDc := hD.sub (ws' := (W_X3_passes cyI cyJ cyO h_o a_o_bytes a_o_newFar a_o_newTones a_o_newCurrents o_length w_20 o_bytes)) [0, 1] (by decide +kernel) rfl
                  have hFc := va_free (wc := (W_X3_passes cyI cyJ cyO h_o a_o_bytes a_o_newFar a_o_newTones a_o_newCurrents o_length w_20 o_bytes)) hD hS hA [0, 1] rfl
                  refine kc_i (wr := [(a_o_newFar, .inl (cyI, 7, .inl w_16)), (a_o_newTones, .inl (cyI, 7, .inl w_17))]) (va_runV (As := [.int 59]) (rest := []) ⟨hx, hb, hml, hown, hts⟩ (c_X3_passes l dC dI cyI cyJ cyO H.size h_o a_o_bytes a_o_newFar a_o_newTones a_o_newCurrents o_length w_20 o_bytes 59 _ (okb2 hw)) (cwV 1 hts (gdV (fun w h => List.mem_cons_of_mem _ h) q_373 q_375 qs_5 q_6 q_376) rfl rfl rfl (by decide +kernel) ⟨Nat.le_of_ble_eq_true rfl, Nat.le_of_ble_eq_true rfl⟩) ⟨(kpre zN_ok hK hPc hDc trivial hS hFc).1, va_recv hK hP (ci := 3) (q0 := 0) rfl rfl, (kpre zN_ok hK hPc hDc trivial hS hFc).2⟩ rfl rfl hl.1 rfl (lv_room (Nat.le_of_ble_eq_true rfl)) dX3_scanRings_92 ⟨Nat.le_of_ble_eq_true rfl, Nat.le_of_ble_eq_true rfl⟩) hP hD hS hFc [0, 1] [2, 3] rfl rfl (by decide +kernel) (by decide +kernel) (fun r_23 w_24 H locs hw hP hD hS => ?_)
                  try dsimp only at hw
                  have hP : va_P (dC, dI) vwCl (W_X3_scanRings cyI cyJ cyO h_o a_o_bytes a_o_newFar a_o_newTones a_o_newCurrents o_length w_24 o_bytes w_16 w_17) H := hP.sub [2, 3, 0, 1] rfl
                  have hD : va_D A (W_X3_scanRings cyI cyJ cyO h_o a_o_bytes a_o_newFar a_o_newTones a_o_newCurrents o_length w_24 o_bytes w_16 w_17) := hD.sub [2, 3, 0, 1] (by decide +kernel) rfl
                  clear hPc hDc hFc
                  refine lv_if_ne (tgt := 103) hx hb dX3_scanRings_95 (by decide) (fun c_25 => ?_) (fun c_25 => ?_)
                  · replace hw := okF hw c_25
                    clear c_25
                    obtain ⟨x_26, ex_26⟩ : ∃ y : Int32, y = v2 + 1 := ⟨_, rfl⟩
                    replace hw := okN ex_26 hw
                    refine lv_iinc (v := x_26) (lv' := [(2, .int x_26), (1, .int r_8), (0, .ref h_o)]) hx hb dX3_scanRings_103 hl (k := 2) rfl (by rw [ex_26]; rfl) (by decide) rfl (fun ls hl => ?_)
                    clear ex_26
                    refine lv_goto (tgt := 31) hx hb dX3_scanRings_106 (by decide) ?_
                    exact ih31 r_8 x_26 w_24 w_16 w_17 _ _ hP hD hS _ (lv_sub hl [2, 1, 0] rfl) hw
                  · replace hw := okT hw c_25
                    clear c_25
                    exact w98 w_24 w_16 w_17 _ _ hP hD hS _ (lv_sub hl [1] rfl) hw
              · replace hw := okF hw c_21
                clear c_21
                refine lv_iload_n hx hb dX3_scanRings_81 rfl (lv_at hl 2 rfl) ?_
                rw [hQ]
                exact W.iret (v := v2) hx hb hr (fun t ht hW => ⟨⟨v2, (w_20, w_16, w_17), rfl, okS hw, by rw [ht]; exact hP, va_K.moved hW.alike hK, hD⟩, hS.F ht⟩) hS.2.2 dX3_scanRings_82
            · replace hw := okT hw c_18
              clear c_18
              exact w69 w_15 w_16 w_17 _ _ hP hD hS _ (lv_sub hl [1] rfl) hw
  have w7 : ∀ (n : Nat), ∀ (v1 : Int32) (o_place : Int32) (o_newFar : Nat → Int32) (o_newTones : Nat → Int32) (H : Heap) (locs : List Loc), va_P (dC, dI) vwCl (W_X3_scanRings cyI cyJ cyO h_o a_o_bytes a_o_newFar a_o_newTones a_o_newCurrents o_length o_place o_bytes o_newFar o_newTones) H → va_D A (W_X3_scanRings cyI cyJ cyO h_o a_o_bytes a_o_newFar a_o_newTones a_o_newCurrents o_length o_place o_bytes o_newFar o_newTones) → va_S A s.heap H locs → ∀ (ls : Array Slot), lv_has ls 3 [(0, .ref h_o), (1, .int v1)] → okP (f_X3_scanRings_L7 n v1 o_length o_place o_bytes o_newFar o_newTones) post → W p l e (headSpec wsX3_scanRings rm_X3_scanRings).room s m ([.ref h_o] : List Value).toArray below meth c H locs 0 0 Q (F0 m 7 ls []) := by
    intro n
    induction n with
    | zero =>
      intro v1 o_place o_newFar o_newTones H locs hP hD hS ls hl hw
      exact (ok0 hw).elim
    | succ n7 ih7 =>
      intro v1 o_place o_newFar o_newTones H locs hP hD hS ls hl hw
      replace hw : okP (f_X3_scanRings_L7b (f_X3_scanRings_L7 n7) v1 o_length o_place o_bytes o_newFar o_newTones) post := hw
      unfold f_X3_scanRings_L7b at hw
      refine lv_iload_n hx hb dX3_scanRings_7 rfl (lv_at hl 1 rfl) ?_
      refine lv_bipush (v := 6) hx hb dX3_scanRings_8 (by decide) ?_
      refine lv_icmp_gt (tgt := 27) hx hb dX3_scanRings_10 (by decide) (fun c_27 => ?_) (fun c_27 => ?_)
      · replace hw := okT hw c_27
        clear c_27
        refine lv_iconst (v := 0) hx hb dX3_scanRings_27 (by decide) ?_
        refine lv_istore_n (lv' := [(1, .int 0), (0, .ref h_o)]) hx hb dX3_scanRings_28 rfl hl (by decide) rfl (fun ls hl => ?_)
        refine lv_iconst (v := 1) hx hb dX3_scanRings_29 (by decide) ?_
        refine lv_istore_n (lv' := [(2, .int 1), (1, .int 0), (0, .ref h_o)]) hx hb dX3_scanRings_30 rfl hl (by decide) rfl (fun ls hl => ?_)
        exact w31 FU 0 1 o_place o_newFar o_newTones _ _ hP hD hS _ (lv_sub hl [2, 1, 0] rfl) hw
      · replace hw := okF hw c_27
        clear c_27
        refine lv_aload_n hx hb dX3_scanRings_13 rfl (lv_at hl 0 rfl) ?_
        refine va_get (D := (dC, dI)) (ci := 3) (v := .ref a_o_newFar) (C := RX3) (T := TX3) (N := 6) hx hb hts hi3 hown hK hP 0 rfl rfl 3 (by decide) hq0 (fun _ h9 => h9) rfl dX3_scanRings_14 ?_
        refine lv_iload_n hx hb dX3_scanRings_17 rfl (lv_at hl 1 rfl) ?_
        refine lv_bipush (v := (-2)) hx hb dX3_scanRings_18 (by decide) ?_
        obtain ⟨h_28, hw⟩ := okC hw
        refine va_iast (i := v1) (x := (-2)) hx hb hK hP hD hS 2 0 rfl rfl h_28 dX3_scanRings_20 (fun H locs hP hD hS => ?_)
        have hP : va_P (dC, dI) vwCl (W_X3_scanRings cyI cyJ cyO h_o a_o_bytes a_o_newFar a_o_newTones a_o_newCurrents o_length o_place o_bytes (upd o_newFar v1.toNatClampNeg (-2)) o_newTones) H := hP
        have hD : va_D A (W_X3_scanRings cyI cyJ cyO h_o a_o_bytes a_o_newFar a_o_newTones a_o_newCurrents o_length o_place o_bytes (upd o_newFar v1.toNatClampNeg (-2)) o_newTones) := hD
        obtain ⟨x_29, ex_29⟩ : ∃ y : Int32, y = v1 + 1 := ⟨_, rfl⟩
        replace hw := okN ex_29 hw
        refine lv_iinc (v := x_29) (lv' := [(1, .int x_29), (0, .ref h_o)]) hx hb dX3_scanRings_21 hl (k := 1) rfl (by rw [ex_29]; rfl) (by decide) rfl (fun ls hl => ?_)
        clear ex_29
        refine lv_goto (tgt := 7) hx hb dX3_scanRings_24 (by decide) ?_
        exact ih7 x_29 o_place (upd o_newFar v1.toNatClampNeg (-2)) o_newTones _ _ hP hD hS _ (lv_sub hl [1, 0] rfl) hw
  unfold f_X3_scanRings at hw
  have hP : va_P (dC, dI) vwCl (W_X3_scanRings cyI cyJ cyO h_o a_o_bytes a_o_newFar a_o_newTones a_o_newCurrents o_length o_place o_bytes o_newFar o_newTones) s.heap := hP
  obtain ⟨H, hH⟩ : ∃ H, H = s.heap := ⟨_, rfl⟩
  obtain ⟨locs, hlo⟩ : ∃ x : List Loc, x = [] := ⟨_, rfl⟩
  have hP : va_P (dC, dI) vwCl (W_X3_scanRings cyI cyJ cyO h_o a_o_bytes a_o_newFar a_o_newTones a_o_newCurrents o_length o_place o_bytes o_newFar o_newTones) H := by rw [hH]; exact hP
  have hS : va_S A s.heap H locs := by rw [hH, hlo]; exact hS
  refine kH hH hlo ?_
  clear hH hlo
  refine lv_aload_n hx hb dX3_scanRings_0 rfl (lv_at hl 0 rfl) ?_
  refine lv_iconst (v := 0) hx hb dX3_scanRings_1 (by decide) ?_
  refine va_put (D := (dC, dI)) (ci := 3) (v := .int 0) (ty := .int) (C := RX3) (T := TX3) (N := 6) hx hb hts hi3 tyX3 tyX3_ok nmX3 hown hK hP hD hS 0 rfl rfl 2 (by decide) hq2 (fun _ h9 => h9) rfl (by decide +kernel) rfl rfl (Nat.le_of_ble_eq_true rfl) dX3_scanRings_2 (fun H locs hP hD hS => ?_)
  have hP : va_P (dC, dI) vwCl (W_X3_scanRings cyI cyJ cyO h_o a_o_bytes a_o_newFar a_o_newTones a_o_newCurrents o_length 0 o_bytes o_newFar o_newTones) H := hP
  have hD : va_D A (W_X3_scanRings cyI cyJ cyO h_o a_o_bytes a_o_newFar a_o_newTones a_o_newCurrents o_length 0 o_bytes o_newFar o_newTones) := hD
  refine lv_iconst (v := 0) hx hb dX3_scanRings_5 (by decide) ?_
  refine lv_istore_n (lv' := [(1, .int 0), (0, .ref h_o)]) hx hb dX3_scanRings_6 rfl hl (by decide) rfl (fun ls hl => ?_)
  exact w7 FU 0 0 o_newFar o_newTones _ _ hP hD hS _ (lv_sub hl [1, 0] rfl) hw
/-! ===== X3_readRings ===== -/
theorem dX3_readRings_0 : decode cX3_readRings 0 = .ok (.aload_n 0, 1) := by decide +kernel
theorem dX3_readRings_1 : decode cX3_readRings 1 = .ok (.invokevirtual 35, 3) := by decide +kernel
theorem dX3_readRings_4 : decode cX3_readRings 4 = .ok (.istore_n 3, 1) := by decide +kernel
theorem dX3_readRings_5 : decode cX3_readRings 5 = .ok (.iconst 1, 1) := by decide +kernel
theorem dX3_readRings_6 : decode cX3_readRings 6 = .ok (.istore 4, 2) := by decide +kernel
theorem dX3_readRings_8 : decode cX3_readRings 8 = .ok (.iload 4, 2) := by decide +kernel
theorem dX3_readRings_10 : decode cX3_readRings 10 = .ok (.bipush 6, 2) := by decide +kernel
theorem dX3_readRings_12 : decode cX3_readRings 12 = .ok (.if_icmp .gt 47, 3) := by decide +kernel
theorem dX3_readRings_15 : decode cX3_readRings 15 = .ok (.iload_n 3, 1) := by decide +kernel
theorem dX3_readRings_16 : decode cX3_readRings 16 = .ok (.ifCond .le 43, 3) := by decide +kernel
theorem dX3_readRings_19 : decode cX3_readRings 19 = .ok (.aload_n 0, 1) := by decide +kernel
theorem dX3_readRings_20 : decode cX3_readRings 20 = .ok (.getfield 22, 3) := by decide +kernel
theorem dX3_readRings_23 : decode cX3_readRings 23 = .ok (.iload 4, 2) := by decide +kernel
theorem dX3_readRings_25 : decode cX3_readRings 25 = .ok (.iaload, 1) := by decide +kernel
theorem dX3_readRings_26 : decode cX3_readRings 26 = .ok (.bipush (-2), 2) := by decide +kernel
theorem dX3_readRings_28 : decode cX3_readRings 28 = .ok (.if_icmp .eq 25, 3) := by decide +kernel
theorem dX3_readRings_31 : decode cX3_readRings 31 = .ok (.aload_n 1, 1) := by decide +kernel
theorem dX3_readRings_32 : decode cX3_readRings 32 = .ok (.iload 4, 2) := by decide +kernel
theorem dX3_readRings_34 : decode cX3_readRings 34 = .ok (.aload_n 0, 1) := by decide +kernel
theorem dX3_readRings_35 : decode cX3_readRings 35 = .ok (.getfield 22, 3) := by decide +kernel
theorem dX3_readRings_38 : decode cX3_readRings 38 = .ok (.iload 4, 2) := by decide +kernel
theorem dX3_readRings_40 : decode cX3_readRings 40 = .ok (.iaload, 1) := by decide +kernel
theorem dX3_readRings_41 : decode cX3_readRings 41 = .ok (.iastore, 1) := by decide +kernel
theorem dX3_readRings_42 : decode cX3_readRings 42 = .ok (.aload_n 2, 1) := by decide +kernel
theorem dX3_readRings_43 : decode cX3_readRings 43 = .ok (.iload 4, 2) := by decide +kernel
theorem dX3_readRings_45 : decode cX3_readRings 45 = .ok (.aload_n 0, 1) := by decide +kernel
theorem dX3_readRings_46 : decode cX3_readRings 46 = .ok (.getfield 25, 3) := by decide +kernel
theorem dX3_readRings_49 : decode cX3_readRings 49 = .ok (.iload 4, 2) := by decide +kernel
theorem dX3_readRings_51 : decode cX3_readRings 51 = .ok (.iaload, 1) := by decide +kernel
theorem dX3_readRings_52 : decode cX3_readRings 52 = .ok (.iastore, 1) := by decide +kernel
theorem dX3_readRings_53 : decode cX3_readRings 53 = .ok (.iinc 4 1, 3) := by decide +kernel
theorem dX3_readRings_56 : decode cX3_readRings 56 = .ok (.goto (-48), 3) := by decide +kernel
theorem dX3_readRings_59 : decode cX3_readRings 59 = .ok (.iload_n 3, 1) := by decide +kernel
theorem dX3_readRings_60 : decode cX3_readRings 60 = .ok (.ireturn, 1) := by decide +kernel
abbrev W_X3_readRings (cyI cyJ cyO : ClassId) (n_p1 n_p2 : Nat) (h_o a_o_bytes a_o_newFar a_o_newTones a_o_newCurrents a_p1 a_p2 : Nat) (o_length : Int32) (o_place : Int32) (o_bytes : Nat → Int32) (o_newFar : Nat → Int32) (o_newTones : Nat → Int32) (p1_arr : Nat → Int32) (p2_arr : Nat → Int32) : va_W := [(h_o, .inr (3, [.ref a_o_bytes, .int o_length, .int o_place, .ref a_o_newFar, .ref a_o_newTones, .ref a_o_newCurrents])), (a_o_bytes, .inl (cyI, 60, .inl o_bytes)), (a_o_newFar, .inl (cyI, 7, .inl o_newFar)), (a_o_newTones, .inl (cyI, 7, .inl o_newTones)), (a_p1, .inl (cyI, n_p1, .inl p1_arr)), (a_p2, .inl (cyI, n_p2, .inl p2_arr))]
def f_X3_readRings_B53 (n_p1 n_p2 : Nat) (k8 : Int32 → Int32 → Int32 → Int32 → (Nat → Int32) → (Nat → Int32) → (Nat → Int32) → (Nat → Int32) → (Nat → Int32) → Option (Int32 × Int32 × (Nat → Int32) × (Nat → Int32) × (Nat → Int32) × (Nat → Int32))) (v3 : Int32) (v4 : Int32) (o_length : Int32) (o_place : Int32) (o_bytes : Nat → Int32) (o_newFar : Nat → Int32) (o_newTones : Nat → Int32) (p1_arr : Nat → Int32) (p2_arr : Nat → Int32) : Option (Int32 × Int32 × (Nat → Int32) × (Nat → Int32) × (Nat → Int32) × (Nat → Int32)) :=
  nm (v4 + 1) fun x_1 =>
  k8 v3 x_1 o_length o_place o_bytes o_newFar o_newTones p1_arr p2_arr
def f_X3_readRings_L8b (n_p1 n_p2 : Nat) (k8 : Int32 → Int32 → Int32 → Int32 → (Nat → Int32) → (Nat → Int32) → (Nat → Int32) → (Nat → Int32) → (Nat → Int32) → Option (Int32 × Int32 × (Nat → Int32) × (Nat → Int32) × (Nat → Int32) × (Nat → Int32))) (v3 : Int32) (v4 : Int32) (o_length : Int32) (o_place : Int32) (o_bytes : Nat → Int32) (o_newFar : Nat → Int32) (o_newTones : Nat → Int32) (p1_arr : Nat → Int32) (p2_arr : Nat → Int32) : Option (Int32 × Int32 × (Nat → Int32) × (Nat → Int32) × (Nat → Int32) × (Nat → Int32)) :=
  if 6 < v4 then
    some (v3, o_place, o_newFar, o_newTones, p1_arr, p2_arr)
  else
    if v3 ≤ 0 then
      some (v3, o_place, o_newFar, o_newTones, p1_arr, p2_arr)
    else
      chk (¬ (v4 < 0 ∨ 7 ≤ v4.toNatClampNeg)) <|
      if (o_newFar v4.toNatClampNeg) = (-2) then
        f_X3_readRings_B53 n_p1 n_p2 k8 v3 v4 o_length o_place o_bytes o_newFar o_newTones p1_arr p2_arr
      else
        chk (¬ (v4 < 0 ∨ 7 ≤ v4.toNatClampNeg)) <|
        nm (o_newFar v4.toNatClampNeg) fun x_2 =>
        chk (¬ (v4 < 0 ∨ n_p1 ≤ v4.toNatClampNeg)) <|
        chk (¬ (v4 < 0 ∨ 7 ≤ v4.toNatClampNeg)) <|
        nm (o_newTones v4.toNatClampNeg) fun x_3 =>
        chk (¬ (v4 < 0 ∨ n_p2 ≤ v4.toNatClampNeg)) <|
        f_X3_readRings_B53 n_p1 n_p2 k8 v3 v4 o_length o_place o_bytes o_newFar o_newTones (upd p1_arr v4.toNatClampNeg x_2) (upd p2_arr v4.toNatClampNeg x_3)
def f_X3_readRings_L8 (n_p1 n_p2 : Nat) : Nat → Int32 → Int32 → Int32 → Int32 → (Nat → Int32) → (Nat → Int32) → (Nat → Int32) → (Nat → Int32) → (Nat → Int32) → Option (Int32 × Int32 × (Nat → Int32) × (Nat → Int32) × (Nat → Int32) × (Nat → Int32))
  | 0 => fun _ _ _ _ _ _ _ _ _ => none
  | n + 1 => f_X3_readRings_L8b n_p1 n_p2 (f_X3_readRings_L8 n_p1 n_p2 n)
def f_X3_readRings (n_p1 n_p2 : Nat) (o_length : Int32) (o_place : Int32) (o_bytes : Nat → Int32) (o_newFar : Nat → Int32) (o_newTones : Nat → Int32) (p1_arr : Nat → Int32) (p2_arr : Nat → Int32) : Option (Int32 × Int32 × (Nat → Int32) × (Nat → Int32) × (Nat → Int32) × (Nat → Int32)) :=
  bd4 (f_X3_scanRings o_length o_place o_bytes o_newFar o_newTones) fun r_4 w_5 w_6 w_7 =>
  f_X3_readRings_L8 n_p1 n_p2 FU r_4 1 o_length w_5 o_bytes w_6 w_7 p1_arr p2_arr
abbrev rm_X3_readRings : Room := { frames := 5, cells := 0, slots := 0, locals := 105 }
set_option maxRecDepth 100000 in
set_option maxHeartbeats 4000000 in
theorem c_X3_readRings (l : Launch) (dC : Nat → ClassId) (dI : Nat → Nat → Nat) (cyI cyJ cyO : ClassId) (sz : Nat) (n_p1 n_p2 : Nat) (h_o a_o_bytes a_o_newFar a_o_newTones a_o_newCurrents a_p1 a_p2 : Nat) (o_length : Int32) (o_place : Int32) (o_bytes : Nat → Int32) (o_newFar : Nat → Int32) (o_newTones : Nat → Int32) (p1_arr : Nat → Int32) (p2_arr : Nat → Int32) (post : (Int32 × Int32 × (Nat → Int32) × (Nat → Int32) × (Nat → Int32) × (Nat → Int32)) → Prop) (hf : okP (f_X3_readRings n_p1 n_p2 o_length o_place o_bytes o_newFar o_newTones p1_arr p2_arr) post) : Ci l (dC, dI) (tyL cyI cyJ cyO) yX3_readRings wsX3_readRings rm_X3_readRings [.ref h_o, .ref a_p1, .ref a_p2] sz (W_X3_readRings cyI cyJ cyO n_p1 n_p2 h_o a_o_bytes a_o_newFar a_o_newTones a_o_newCurrents a_p1 a_p2 o_length o_place o_bytes o_newFar o_newTones p1_arr p2_arr) zN (fun r u => post (r, u)) (fun u => (W_X3_readRings cyI cyJ cyO n_p1 n_p2 h_o a_o_bytes a_o_newFar a_o_newTones a_o_newCurrents a_p1 a_p2 o_length u.1 o_bytes u.2.1 u.2.2.1 u.2.2.2.1 u.2.2.2.2)) := by
  refine Met.ofW (cc := cX3_readRings) (maxL := 5) (ret := (some .int)) (by decide) rfl ?_
  intro p e s m args below meth c s₁ B hml hv
  obtain ⟨rfl, hsz, hP, hK, hD0, hZ⟩ := hv
  have hx := B.exec
  have hb := B.bytes
  have hr := B.returns
  have hts := atoms_spec (ws := wsX3_readRings) B.pre
  have hown : s.vm.findClass RX3 = some m.cls := findClass_of_methodNamed B.named
  have hlocks := B.notSynchronized
  subst hsz
  have hD := hD0.self (sz := s.heap.size)
  generalize hAe : va_A (W_X3_readRings cyI cyJ cyO n_p1 n_p2 h_o a_o_bytes a_o_newFar a_o_newTones a_o_newCurrents a_p1 a_p2 o_length o_place o_bytes o_newFar o_newTones p1_arr p2_arr) s.heap.size = A at hD hZ ⊢
  have hA : ∀ q : Nat, s.heap.size ≤ q → A q := fun q h => by rw [← hAe]; exact Or.inr h
  clear hAe hD0
  have hS : va_S A s.heap s.heap [] := va_S.rf
  have hl := lv_entry ([.ref h_o, .ref a_p1, .ref a_p2]) (n := 5) (Nat.le_of_ble_eq_true rfl)
  rw [lg_entry_eq]
  generalize (lg_sl ([.ref h_o, .ref a_p1, .ref a_p2]) ++ List.replicate (5 - (lg_sl ([.ref h_o, .ref a_p1, .ref a_p2])).length) Slot.unset).toArray = ls at hl ⊢
  have hl : lv_has ls 5 [(0, .ref h_o), (1, .ref a_p1), (2, .ref a_p2)] := hl
  refine kW (fun Q hQ => ?_)
  have hq0 := hts _ (List.mem_cons_of_mem _ q_234)
  have hi3 : ∀ w ∈ u_ws RX3 TX3 6, w ∈ wsX3_readRings := fun w h => List.mem_cons_of_mem _ (inX3 w h)
  have hq2 := hts _ (List.mem_cons_of_mem _ q_235)
  have hw := hf
  have w8 : ∀ (n : Nat), ∀ (v3 : Int32) (v4 : Int32) (o_place : Int32) (o_newFar : Nat → Int32) (o_newTones : Nat → Int32) (p1_arr : Nat → Int32) (p2_arr : Nat → Int32) (H : Heap) (locs : List Loc), va_P (dC, dI) vwCl (W_X3_readRings cyI cyJ cyO n_p1 n_p2 h_o a_o_bytes a_o_newFar a_o_newTones a_o_newCurrents a_p1 a_p2 o_length o_place o_bytes o_newFar o_newTones p1_arr p2_arr) H → va_D A (W_X3_readRings cyI cyJ cyO n_p1 n_p2 h_o a_o_bytes a_o_newFar a_o_newTones a_o_newCurrents a_p1 a_p2 o_length o_place o_bytes o_newFar o_newTones p1_arr p2_arr) → va_S A s.heap H locs → ∀ (ls : Array Slot), lv_has ls 5 [(0, .ref h_o), (1, .ref a_p1), (2, .ref a_p2), (3, .int v3), (4, .int v4)] → okP (f_X3_readRings_L8 n_p1 n_p2 n v3 v4 o_length o_place o_bytes o_newFar o_newTones p1_arr p2_arr) post → W p l e (headSpec wsX3_readRings rm_X3_readRings).room s m ([.ref h_o, .ref a_p1, .ref a_p2] : List Value).toArray below meth c H locs 0 0 Q (F0 m 8 ls []) := by
    intro n
    induction n with
    | zero =>
      intro v3 v4 o_place o_newFar o_newTones p1_arr p2_arr H locs hP hD hS ls hl hw
      exact (ok0 hw).elim
    | succ n8 ih8 =>
      have w53 : ∀ (v3 : Int32) (v4 : Int32) (o_place : Int32) (o_newFar : Nat → Int32) (o_newTones : Nat → Int32) (p1_arr : Nat → Int32) (p2_arr : Nat → Int32) (H : Heap) (locs : List Loc), va_P (dC, dI) vwCl (W_X3_readRings cyI cyJ cyO n_p1 n_p2 h_o a_o_bytes a_o_newFar a_o_newTones a_o_newCurrents a_p1 a_p2 o_length o_place o_bytes o_newFar o_newTones p1_arr p2_arr) H → va_D A (W_X3_readRings cyI cyJ cyO n_p1 n_p2 h_o a_o_bytes a_o_newFar a_o_newTones a_o_newCurrents a_p1 a_p2 o_length o_place o_bytes o_newFar o_newTones p1_arr p2_arr) → va_S A s.heap H locs → ∀ (ls : Array Slot), lv_has ls 5 [(0, .ref h_o), (1, .ref a_p1), (2, .ref a_p2), (3, .int v3), (4, .int v4)] → okP (f_X3_readRings_B53 n_p1 n_p2 (f_X3_readRings_L8 n_p1 n_p2 n8) v3 v4 o_length o_place o_bytes o_newFar o_newTones p1_arr p2_arr) post → W p l e (headSpec wsX3_readRings rm_X3_readRings).room s m ([.ref h_o, .ref a_p1, .ref a_p2] : List Value).toArray below meth c H locs 0 0 Q (F0 m 53 ls []) := by
        intro v3 v4 o_place o_newFar o_newTones p1_arr p2_arr H locs hP hD hS ls hl hw
        unfold f_X3_readRings_B53 at hw
        obtain ⟨x_1, ex_1⟩ : ∃ y : Int32, y = v4 + 1 := ⟨_, rfl⟩
        replace hw := okN ex_1 hw
        refine lv_iinc (v := x_1) (lv' := [(4, .int x_1), (0, .ref h_o), (1, .ref a_p1), (2, .ref a_p2), (3, .int v3)]) hx hb dX3_readRings_53 hl (k := 4) rfl (by rw [ex_1]; rfl) (by decide) rfl (fun ls hl => ?_)
        clear ex_1
        refine lv_goto (tgt := 8) hx hb dX3_readRings_56 (by decide) ?_
        exact ih8 v3 x_1 o_place o_newFar o_newTones p1_arr p2_arr _ _ hP hD hS _ (lv_sub hl [1, 2, 3, 4, 0] rfl) hw
      intro v3 v4 o_place o_newFar o_newTones p1_arr p2_arr H locs hP hD hS ls hl hw
      replace hw : okP (f_X3_readRings_L8b n_p1 n_p2 (f_X3_readRings_L8 n_p1 n_p2 n8) v3 v4 o_length o_place o_bytes o_newFar o_newTones p1_arr p2_arr) post := hw
      unfold f_X3_readRings_L8b at hw
      refine lv_iload hx hb dX3_readRings_8 (lv_at hl 4 rfl) ?_
      refine lv_bipush (v := 6) hx hb dX3_readRings_10 (by decide) ?_
      refine lv_icmp_gt (tgt := 59) hx hb dX3_readRings_12 (by decide) (fun c_2 => ?_) (fun c_2 => ?_)
      · replace hw := okT hw c_2
        clear c_2
        refine lv_iload_n hx hb dX3_readRings_59 rfl (lv_at hl 3 rfl) ?_
        rw [hQ]
        exact W.iret (v := v3) hx hb hr (fun t ht hW => ⟨⟨v3, (o_place, o_newFar, o_newTones, p1_arr, p2_arr), rfl, okS hw, by rw [ht]; exact hP, va_K.moved hW.alike hK, hD⟩, hS.F ht⟩) hS.2.2 dX3_readRings_60
      · replace hw := okF hw c_2
        clear c_2
        refine lv_iload_n hx hb dX3_readRings_15 rfl (lv_at hl 3 rfl) ?_
        refine lv_if_le (tgt := 59) hx hb dX3_readRings_16 (by decide) (fun c_3 => ?_) (fun c_3 => ?_)
        · replace hw := okT hw c_3
          clear c_3
          refine lv_iload_n hx hb dX3_readRings_59 rfl (lv_at hl 3 rfl) ?_
          rw [hQ]
          exact W.iret (v := v3) hx hb hr (fun t ht hW => ⟨⟨v3, (o_place, o_newFar, o_newTones, p1_arr, p2_arr), rfl, okS hw, by rw [ht]; exact hP, va_K.moved hW.alike hK, hD⟩, hS.F ht⟩) hS.2.2 dX3_readRings_60
        · replace hw := okF hw c_3
          clear c_3
          refine lv_aload_n hx hb dX3_readRings_19 rfl (lv_at hl 0 rfl) ?_
          refine va_get (D := (dC, dI)) (ci := 3) (v := .ref a_o_newFar) (C := RX3) (T := TX3) (N := 6) hx hb hts hi3 hown hK hP 0 rfl rfl 3 (by decide) hq0 (fun _ h9 => h9) rfl dX3_readRings_20 ?_
          refine lv_iload hx hb dX3_readRings_23 (lv_at hl 4 rfl) ?_
          obtain ⟨h_4, hw⟩ := okC hw
          refine va_iald (i := v4) hx hb hK hP 2 0 rfl rfl h_4 dX3_readRings_25 ?_
          refine lv_bipush (v := (-2)) hx hb dX3_readRings_26 (by decide) ?_
          refine lv_icmp_eq (tgt := 53) hx hb dX3_readRings_28 (by decide) (fun c_5 => ?_) (fun c_5 => ?_)
          · replace hw := okT hw c_5
            clear c_5
            exact w53 v3 v4 o_place o_newFar o_newTones p1_arr p2_arr _ _ hP hD hS _ (lv_sub hl [0, 1, 2, 3, 4] rfl) hw
          · replace hw := okF hw c_5
            clear c_5
            refine lv_aload_n hx hb dX3_readRings_31 rfl (lv_at hl 1 rfl) ?_
            refine lv_iload hx hb dX3_readRings_32 (lv_at hl 4 rfl) ?_
            refine lv_aload_n hx hb dX3_readRings_34 rfl (lv_at hl 0 rfl) ?_
            refine va_get (D := (dC, dI)) (ci := 3) (v := .ref a_o_newFar) (C := RX3) (T := TX3) (N := 6) hx hb hts hi3 hown hK hP 0 rfl rfl 3 (by decide) hq0 (fun _ h9 => h9) rfl dX3_readRings_35 ?_
            refine lv_iload hx hb dX3_readRings_38 (lv_at hl 4 rfl) ?_
            obtain ⟨h_6, hw⟩ := okC hw
            refine va_iald (i := v4) hx hb hK hP 2 0 rfl rfl h_6 dX3_readRings_40 ?_
            refine lv_topi (fun x_7 ex_7 => ?_)
            replace hw := okN ex_7 hw
            clear ex_7
            obtain ⟨h_8, hw⟩ := okC hw
            refine va_iast (i := v4) (x := x_7) hx hb hK hP hD hS 4 0 rfl rfl h_8 dX3_readRings_41 (fun H locs hP hD hS => ?_)
            have hP : va_P (dC, dI) vwCl (W_X3_readRings cyI cyJ cyO n_p1 n_p2 h_o a_o_bytes a_o_newFar a_o_newTones a_o_newCurrents a_p1 a_p2 o_length o_place o_bytes o_newFar o_newTones (upd p1_arr v4.toNatClampNeg x_7) p2_arr) H := hP
            have hD : va_D A (W_X3_readRings cyI cyJ cyO n_p1 n_p2 h_o a_o_bytes a_o_newFar a_o_newTones a_o_newCurrents a_p1 a_p2 o_length o_place o_bytes o_newFar o_newTones (upd p1_arr v4.toNatClampNeg x_7) p2_arr) := hD
            refine lv_aload_n hx hb dX3_readRings_42 rfl (lv_at hl 2 rfl) ?_
            refine lv_iload hx hb dX3_readRings_43 (lv_at hl 4 rfl) ?_
            refine lv_aload_n hx hb dX3_readRings_45 rfl (lv_at hl 0 rfl) ?_
            refine va_get (D := (dC, dI)) (ci := 3) (v := .ref a_o_newTones) (C := RX3) (T := TX3) (N := 6) hx hb hts hi3 hown hK hP 0 rfl rfl 4 (by decide) hq2 (fun _ h9 => h9) rfl dX3_readRings_46 ?_
            refine lv_iload hx hb dX3_readRings_49 (lv_at hl 4 rfl) ?_
            obtain ⟨h_9, hw⟩ := okC hw
            refine va_iald (i := v4) hx hb hK hP 3 0 rfl rfl h_9 dX3_readRings_51 ?_
            refine lv_topi (fun x_10 ex_10 => ?_)
            replace hw := okN ex_10 hw
            clear ex_10
            obtain ⟨h_11, hw⟩ := okC hw
            refine va_iast (i := v4) (x := x_10) hx hb hK hP hD hS 5 0 rfl rfl h_11 dX3_readRings_52 (fun H locs hP hD hS => ?_)
            have hP : va_P (dC, dI) vwCl (W_X3_readRings cyI cyJ cyO n_p1 n_p2 h_o a_o_bytes a_o_newFar a_o_newTones a_o_newCurrents a_p1 a_p2 o_length o_place o_bytes o_newFar o_newTones (upd p1_arr v4.toNatClampNeg x_7) (upd p2_arr v4.toNatClampNeg x_10)) H := hP
            have hD : va_D A (W_X3_readRings cyI cyJ cyO n_p1 n_p2 h_o a_o_bytes a_o_newFar a_o_newTones a_o_newCurrents a_p1 a_p2 o_length o_place o_bytes o_newFar o_newTones (upd p1_arr v4.toNatClampNeg x_7) (upd p2_arr v4.toNatClampNeg x_10)) := hD
            exact w53 v3 v4 o_place o_newFar o_newTones (upd p1_arr v4.toNatClampNeg x_7) (upd p2_arr v4.toNatClampNeg x_10) _ _ hP hD hS _ (lv_sub hl [0, 1, 2, 3, 4] rfl) hw
  unfold f_X3_readRings at hw
  have hP : va_P (dC, dI) vwCl (W_X3_readRings cyI cyJ cyO n_p1 n_p2 h_o a_o_bytes a_o_newFar a_o_newTones a_o_newCurrents a_p1 a_p2 o_length o_place o_bytes o_newFar o_newTones p1_arr p2_arr) s.heap := hP
  obtain ⟨H, hH⟩ : ∃ H, H = s.heap := ⟨_, rfl⟩
  obtain ⟨locs, hlo⟩ : ∃ x : List Loc, x = [] := ⟨_, rfl⟩
  have hP : va_P (dC, dI) vwCl (W_X3_readRings cyI cyJ cyO n_p1 n_p2 h_o a_o_bytes a_o_newFar a_o_newTones a_o_newCurrents a_p1 a_p2 o_length o_place o_bytes o_newFar o_newTones p1_arr p2_arr) H := by rw [hH]; exact hP
  have hS : va_S A s.heap H locs := by rw [hH, hlo]; exact hS
  refine kH hH hlo ?_
  clear hH hlo
  refine lv_aload_n hx hb dX3_readRings_0 rfl (lv_at hl 0 rfl) ?_
  have hPc := hP.sub (ws' := (W_X3_scanRings cyI cyJ cyO h_o a_o_bytes a_o_newFar a_o_newTones a_o_newCurrents o_length o_place o_bytes o_newFar o_newTones)) [0, 1, 2, 3] rfl
  have hDc := hD.sub (ws' := (W_X3_scanRings cyI cyJ cyO h_o a_o_bytes a_o_newFar a_o_newTones a_o_newCurrents o_length o_place o_bytes o_newFar o_newTones)) [0, 1, 2, 3] (by decide +kernel) rfl
  have hFc := va_free (wc := (W_X3_scanRings cyI cyJ cyO h_o a_o_bytes a_o_newFar a_o_newTones a_o_newCurrents o_length o_place o_bytes o_newFar o_newTones)) hD hS hA [0, 1, 2, 3] rfl
  refine kc_i (wr := [(a_p1, .inl (cyI, n_p1, .inl p1_arr)), (a_p2, .inl (cyI, n_p2, .inl p2_arr))]) (va_runV (As := []) (rest := []) ⟨hx, hb, hml, hown, hts⟩ (c_X3_scanRings l dC dI cyI cyJ cyO H.size h_o a_o_bytes a_o_newFar a_o_newTones a_o_newCurrents o_length o_place o_bytes o_newFar o_newTones _ (okb4 hw)) (cwV 0 hts (gdV (fun w h => List.mem_cons_of_mem _ h) q_358 q_360 qs_2 q_6 q_361) rfl rfl rfl (by decide +kernel) ⟨Nat.le_of_ble_eq_true rfl, Nat.le_of_ble_eq_true rfl⟩) ⟨(kpre zN_ok hK hPc hDc trivial hS hFc).1, va_recv hK hP (ci := 3) (q0 := 0) rfl rfl, (kpre zN_ok hK hPc hDc trivial hS hFc).2⟩ rfl rfl hl.1 rfl (lv_room (Nat.le_of_ble_eq_true rfl)) dX3_readRings_1 ⟨Nat.le_of_ble_eq_true rfl, Nat.le_of_ble_eq_true rfl⟩) hP hD hS hFc [0, 1, 2, 3] [4, 5] rfl rfl (by decide +kernel) (by decide +kernel) (fun r_12 u H locs hw hP hD hS => ?_)
  obtain ⟨w_13, w_14, w_15⟩ := u
  try dsimp only at hw
  have hP : va_P (dC, dI) vwCl (W_X3_readRings cyI cyJ cyO n_p1 n_p2 h_o a_o_bytes a_o_newFar a_o_newTones a_o_newCurrents a_p1 a_p2 o_length w_13 o_bytes w_14 w_15 p1_arr p2_arr) H := hP.sub [2, 3, 4, 5, 0, 1] rfl
  have hD : va_D A (W_X3_readRings cyI cyJ cyO n_p1 n_p2 h_o a_o_bytes a_o_newFar a_o_newTones a_o_newCurrents a_p1 a_p2 o_length w_13 o_bytes w_14 w_15 p1_arr p2_arr) := hD.sub [2, 3, 4, 5, 0, 1] (by decide +kernel) rfl
  clear hPc hDc hFc
  refine lv_istore_n (lv' := [(3, .int r_12), (0, .ref h_o), (1, .ref a_p1), (2, .ref a_p2)]) hx hb dX3_readRings_4 rfl hl (by decide) rfl (fun ls hl => ?_)
  refine lv_iconst (v := 1) hx hb dX3_readRings_5 (by decide) ?_
  refine lv_istore (lv' := [(4, .int 1), (3, .int r_12), (0, .ref h_o), (1, .ref a_p1), (2, .ref a_p2)]) hx hb dX3_readRings_6 hl (by decide) rfl (fun ls hl => ?_)
  exact w8 FU r_12 1 w_13 w_14 w_15 p1_arr p2_arr _ _ hP hD hS _ (lv_sub hl [2, 3, 4, 1, 0] rfl) hw
/-! ===== X3_readSea ===== -/
theorem dX3_readSea_0 : decode cX3_readSea 0 = .ok (.aload_n 0, 1) := by decide +kernel
theorem dX3_readSea_1 : decode cX3_readSea 1 = .ok (.iconst 0, 1) := by decide +kernel
theorem dX3_readSea_2 : decode cX3_readSea 2 = .ok (.putfield 19, 3) := by decide +kernel
theorem dX3_readSea_5 : decode cX3_readSea 5 = .ok (.iconst 0, 1) := by decide +kernel
theorem dX3_readSea_6 : decode cX3_readSea 6 = .ok (.istore_n 3, 1) := by decide +kernel
theorem dX3_readSea_7 : decode cX3_readSea 7 = .ok (.iconst 0, 1) := by decide +kernel
theorem dX3_readSea_8 : decode cX3_readSea 8 = .ok (.istore 4, 2) := by decide +kernel
theorem dX3_readSea_10 : decode cX3_readSea 10 = .ok (.iload 4, 2) := by decide +kernel
theorem dX3_readSea_12 : decode cX3_readSea 12 = .ok (.bipush 10, 2) := by decide +kernel
theorem dX3_readSea_14 : decode cX3_readSea 14 = .ok (.if_icmp .ge 85, 3) := by decide +kernel
theorem dX3_readSea_17 : decode cX3_readSea 17 = .ok (.aload_n 0, 1) := by decide +kernel
theorem dX3_readSea_18 : decode cX3_readSea 18 = .ok (.invokevirtual 53, 3) := by decide +kernel
theorem dX3_readSea_21 : decode cX3_readSea 21 = .ok (.ifCond .eq 7, 3) := by decide +kernel
theorem dX3_readSea_24 : decode cX3_readSea 24 = .ok (.iconst (-1), 1) := by decide +kernel
theorem dX3_readSea_25 : decode cX3_readSea 25 = .ok (.goto 15, 3) := by decide +kernel
theorem dX3_readSea_28 : decode cX3_readSea 28 = .ok (.aload_n 0, 1) := by decide +kernel
theorem dX3_readSea_29 : decode cX3_readSea 29 = .ok (.getfield 11, 3) := by decide +kernel
theorem dX3_readSea_32 : decode cX3_readSea 32 = .ok (.aload_n 0, 1) := by decide +kernel
theorem dX3_readSea_33 : decode cX3_readSea 33 = .ok (.getfield 19, 3) := by decide +kernel
theorem dX3_readSea_36 : decode cX3_readSea 36 = .ok (.iaload, 1) := by decide +kernel
theorem dX3_readSea_37 : decode cX3_readSea 37 = .ok (.bipush 48, 2) := by decide +kernel
theorem dX3_readSea_39 : decode cX3_readSea 39 = .ok (.isub, 1) := by decide +kernel
theorem dX3_readSea_40 : decode cX3_readSea 40 = .ok (.istore 5, 2) := by decide +kernel
theorem dX3_readSea_42 : decode cX3_readSea 42 = .ok (.iload 5, 2) := by decide +kernel
theorem dX3_readSea_44 : decode cX3_readSea 44 = .ok (.ifCond .lt 10, 3) := by decide +kernel
theorem dX3_readSea_47 : decode cX3_readSea 47 = .ok (.iload 5, 2) := by decide +kernel
theorem dX3_readSea_49 : decode cX3_readSea 49 = .ok (.bipush 8, 2) := by decide +kernel
theorem dX3_readSea_51 : decode cX3_readSea 51 = .ok (.if_icmp .le 8, 3) := by decide +kernel
theorem dX3_readSea_54 : decode cX3_readSea 54 = .ok (.aload_n 0, 1) := by decide +kernel
theorem dX3_readSea_55 : decode cX3_readSea 55 = .ok (.invokevirtual 50, 3) := by decide +kernel
theorem dX3_readSea_58 : decode cX3_readSea 58 = .ok (.ireturn, 1) := by decide +kernel
theorem dX3_readSea_59 : decode cX3_readSea 59 = .ok (.aload_n 0, 1) := by decide +kernel
theorem dX3_readSea_60 : decode cX3_readSea 60 = .ok (.getfield 28, 3) := by decide +kernel
theorem dX3_readSea_63 : decode cX3_readSea 63 = .ok (.iload 4, 2) := by decide +kernel
theorem dX3_readSea_65 : decode cX3_readSea 65 = .ok (.iload 5, 2) := by decide +kernel
theorem dX3_readSea_67 : decode cX3_readSea 67 = .ok (.iastore, 1) := by decide +kernel
theorem dX3_readSea_68 : decode cX3_readSea 68 = .ok (.iload_n 3, 1) := by decide +kernel
theorem dX3_readSea_69 : decode cX3_readSea 69 = .ok (.iload 5, 2) := by decide +kernel
theorem dX3_readSea_71 : decode cX3_readSea 71 = .ok (.bipush 8, 2) := by decide +kernel
theorem dX3_readSea_73 : decode cX3_readSea 73 = .ok (.if_icmp .ne 7, 3) := by decide +kernel
theorem dX3_readSea_76 : decode cX3_readSea 76 = .ok (.iconst 0, 1) := by decide +kernel
theorem dX3_readSea_77 : decode cX3_readSea 77 = .ok (.goto 4, 3) := by decide +kernel
theorem dX3_readSea_80 : decode cX3_readSea 80 = .ok (.iconst 1, 1) := by decide +kernel
theorem dX3_readSea_81 : decode cX3_readSea 81 = .ok (.iadd, 1) := by decide +kernel
theorem dX3_readSea_82 : decode cX3_readSea 82 = .ok (.istore_n 3, 1) := by decide +kernel
theorem dX3_readSea_83 : decode cX3_readSea 83 = .ok (.aload_n 0, 1) := by decide +kernel
theorem dX3_readSea_84 : decode cX3_readSea 84 = .ok (.dup, 1) := by decide +kernel
theorem dX3_readSea_85 : decode cX3_readSea 85 = .ok (.getfield 19, 3) := by decide +kernel
theorem dX3_readSea_88 : decode cX3_readSea 88 = .ok (.iconst 1, 1) := by decide +kernel
theorem dX3_readSea_89 : decode cX3_readSea 89 = .ok (.iadd, 1) := by decide +kernel
theorem dX3_readSea_90 : decode cX3_readSea 90 = .ok (.putfield 19, 3) := by decide +kernel
theorem dX3_readSea_93 : decode cX3_readSea 93 = .ok (.iinc 4 1, 3) := by decide +kernel
theorem dX3_readSea_96 : decode cX3_readSea 96 = .ok (.goto (-86), 3) := by decide +kernel
theorem dX3_readSea_99 : decode cX3_readSea 99 = .ok (.aload_n 0, 1) := by decide +kernel
theorem dX3_readSea_100 : decode cX3_readSea 100 = .ok (.invokevirtual 53, 3) := by decide +kernel
theorem dX3_readSea_103 : decode cX3_readSea 103 = .ok (.ifCond .eq 16, 3) := by decide +kernel
theorem dX3_readSea_106 : decode cX3_readSea 106 = .ok (.iload_n 2, 1) := by decide +kernel
theorem dX3_readSea_107 : decode cX3_readSea 107 = .ok (.ifCond .lt 12, 3) := by decide +kernel
theorem dX3_readSea_110 : decode cX3_readSea 110 = .ok (.iload_n 2, 1) := by decide +kernel
theorem dX3_readSea_111 : decode cX3_readSea 111 = .ok (.aload_n 1, 1) := by decide +kernel
theorem dX3_readSea_112 : decode cX3_readSea 112 = .ok (.arraylength, 1) := by decide +kernel
theorem dX3_readSea_113 : decode cX3_readSea 113 = .ok (.bipush 10, 2) := by decide +kernel
theorem dX3_readSea_115 : decode cX3_readSea 115 = .ok (.isub, 1) := by decide +kernel
theorem dX3_readSea_116 : decode cX3_readSea 116 = .ok (.if_icmp .le 8, 3) := by decide +kernel
theorem dX3_readSea_119 : decode cX3_readSea 119 = .ok (.aload_n 0, 1) := by decide +kernel
theorem dX3_readSea_120 : decode cX3_readSea 120 = .ok (.invokevirtual 50, 3) := by decide +kernel
theorem dX3_readSea_123 : decode cX3_readSea 123 = .ok (.ireturn, 1) := by decide +kernel
theorem dX3_readSea_124 : decode cX3_readSea 124 = .ok (.aload_n 0, 1) := by decide +kernel
theorem dX3_readSea_125 : decode cX3_readSea 125 = .ok (.getfield 28, 3) := by decide +kernel
theorem dX3_readSea_128 : decode cX3_readSea 128 = .ok (.iconst 0, 1) := by decide +kernel
theorem dX3_readSea_129 : decode cX3_readSea 129 = .ok (.aload_n 1, 1) := by decide +kernel
theorem dX3_readSea_130 : decode cX3_readSea 130 = .ok (.iload_n 2, 1) := by decide +kernel
theorem dX3_readSea_131 : decode cX3_readSea 131 = .ok (.bipush 10, 2) := by decide +kernel
theorem dX3_readSea_133 : decode cX3_readSea 133 = .ok (.invokestatic 57, 3) := by decide +kernel
theorem dX3_readSea_136 : decode cX3_readSea 136 = .ok (.iload_n 3, 1) := by decide +kernel
theorem dX3_readSea_137 : decode cX3_readSea 137 = .ok (.ireturn, 1) := by decide +kernel
abbrev W_X3_readSea (cyI cyJ cyO : ClassId) (n_p1 : Nat) (h_o a_o_bytes a_o_newFar a_o_newTones a_o_newCurrents a_p1 : Nat) (o_length : Int32) (o_place : Int32) (o_bytes : Nat → Int32) (o_newCurrents : Nat → Int32) (p1_arr : Nat → Int32) : va_W := [(h_o, .inr (3, [.ref a_o_bytes, .int o_length, .int o_place, .ref a_o_newFar, .ref a_o_newTones, .ref a_o_newCurrents])), (a_o_bytes, .inl (cyI, 60, .inl o_bytes)), (a_o_newCurrents, .inl (cyI, 10, .inl o_newCurrents)), (a_p1, .inl (cyI, n_p1, .inl p1_arr))]
def f_X3_readSea_B119 (n_p1 : Nat) (o_length : Int32) (o_place : Int32) (o_bytes : Nat → Int32) (o_newCurrents : Nat → Int32) (p1_arr : Nat → Int32) : Option (Int32 × Int32 × (Nat → Int32) × (Nat → Int32)) :=
  bd2 (f_X3_fault o_length o_place o_bytes) fun r_1 w_2 =>
  some (r_1, w_2, o_newCurrents, p1_arr)
def f_X3_readSea_B81 (n_p1 : Nat) (k10 : Int32 → Int32 → Int32 → Int32 → Int32 → (Nat → Int32) → (Nat → Int32) → (Nat → Int32) → Option (Int32 × Int32 × (Nat → Int32) × (Nat → Int32))) (v2 : Int32) (v4 : Int32) (y0 : Int32) (y1 : Int32) (o_length : Int32) (o_place : Int32) (o_bytes : Nat → Int32) (o_newCurrents : Nat → Int32) (p1_arr : Nat → Int32) : Option (Int32 × Int32 × (Nat → Int32) × (Nat → Int32)) :=
  nm (y1 + y0) fun x_3 =>
  nm (o_place + 1) fun x_4 =>
  nm (v4 + 1) fun x_5 =>
  k10 v2 x_3 x_5 o_length x_4 o_bytes o_newCurrents p1_arr
def f_X3_readSea_B54 (n_p1 : Nat) (o_length : Int32) (o_place : Int32) (o_bytes : Nat → Int32) (o_newCurrents : Nat → Int32) (p1_arr : Nat → Int32) : Option (Int32 × Int32 × (Nat → Int32) × (Nat → Int32)) :=
  bd2 (f_X3_fault o_length o_place o_bytes) fun r_6 w_7 =>
  some (r_6, w_7, o_newCurrents, p1_arr)
def f_X3_readSea_B40 (n_p1 : Nat) (k10 : Int32 → Int32 → Int32 → Int32 → Int32 → (Nat → Int32) → (Nat → Int32) → (Nat → Int32) → Option (Int32 × Int32 × (Nat → Int32) × (Nat → Int32))) (v2 : Int32) (v3 : Int32) (v4 : Int32) (y0 : Int32) (o_length : Int32) (o_place : Int32) (o_bytes : Nat → Int32) (o_newCurrents : Nat → Int32) (p1_arr : Nat → Int32) : Option (Int32 × Int32 × (Nat → Int32) × (Nat → Int32)) :=
  if y0 < 0 then
    f_X3_readSea_B54 n_p1 o_length o_place o_bytes o_newCurrents p1_arr
  else
    if y0 ≤ 8 then
      chk (¬ (v4 < 0 ∨ 10 ≤ v4.toNatClampNeg)) <|
      if y0 = 8 then
        f_X3_readSea_B81 n_p1 k10 v2 v4 0 v3 o_length o_place o_bytes (upd o_newCurrents v4.toNatClampNeg y0) p1_arr
      else
        f_X3_readSea_B81 n_p1 k10 v2 v4 1 v3 o_length o_place o_bytes (upd o_newCurrents v4.toNatClampNeg y0) p1_arr
    else
      f_X3_readSea_B54 n_p1 o_length o_place o_bytes o_newCurrents p1_arr
def f_X3_readSea_L10b (n_p1 : Nat) (k10 : Int32 → Int32 → Int32 → Int32 → Int32 → (Nat → Int32) → (Nat → Int32) → (Nat → Int32) → Option (Int32 × Int32 × (Nat → Int32) × (Nat → Int32))) (v2 : Int32) (v3 : Int32) (v4 : Int32) (o_length : Int32) (o_place : Int32) (o_bytes : Nat → Int32) (o_newCurrents : Nat → Int32) (p1_arr : Nat → Int32) : Option (Int32 × Int32 × (Nat → Int32) × (Nat → Int32)) :=
  if 10 ≤ v4 then
    bd2 (f_X3_isAtEnd o_length o_place o_bytes) fun r_8 w_9 =>
    if r_8 = 0 then
      f_X3_readSea_B119 n_p1 o_length w_9 o_bytes o_newCurrents p1_arr
    else
      if v2 < 0 then
        f_X3_readSea_B119 n_p1 o_length w_9 o_bytes o_newCurrents p1_arr
      else
        if v2 ≤ ((Int32.ofNat n_p1) - 10) then
          chk (¬ v2 < 0 ∧ v2.toNatClampNeg + 10 ≤ n_p1) <|
          some (v3, w_9, o_newCurrents, va_cpy o_newCurrents p1_arr 0 v2.toNatClampNeg 10)
        else
          f_X3_readSea_B119 n_p1 o_length w_9 o_bytes o_newCurrents p1_arr
  else
    bd2 (f_X3_isAtEnd o_length o_place o_bytes) fun r_10 w_11 =>
    if r_10 = 0 then
      chk (¬ (w_11 < 0 ∨ 60 ≤ w_11.toNatClampNeg)) <|
      f_X3_readSea_B40 n_p1 k10 v2 v3 v4 ((o_bytes w_11.toNatClampNeg) - 48) o_length w_11 o_bytes o_newCurrents p1_arr
    else
      f_X3_readSea_B40 n_p1 k10 v2 v3 v4 (-1) o_length w_11 o_bytes o_newCurrents p1_arr
def f_X3_readSea_L10 (n_p1 : Nat) : Nat → Int32 → Int32 → Int32 → Int32 → Int32 → (Nat → Int32) → (Nat → Int32) → (Nat → Int32) → Option (Int32 × Int32 × (Nat → Int32) × (Nat → Int32))
  | 0 => fun _ _ _ _ _ _ _ _ => none
  | n + 1 => f_X3_readSea_L10b n_p1 (f_X3_readSea_L10 n_p1 n)
def f_X3_readSea (n_p1 : Nat) (x2 : Int32) (o_length : Int32) (o_place : Int32) (o_bytes : Nat → Int32) (o_newCurrents : Nat → Int32) (p1_arr : Nat → Int32) : Option (Int32 × Int32 × (Nat → Int32) × (Nat → Int32)) :=
  f_X3_readSea_L10 n_p1 FU x2 0 0 o_length 0 o_bytes o_newCurrents p1_arr
abbrev rm_X3_readSea : Room := { frames := 2, cells := 0, slots := 0, locals := 40 }
set_option maxRecDepth 100000 in
set_option maxHeartbeats 4000000 in
theorem c_X3_readSea (l : Launch) (dC : Nat → ClassId) (dI : Nat → Nat → Nat) (cyI cyJ cyO : ClassId) (sz : Nat) (n_p1 : Nat) (h_o a_o_bytes a_o_newFar a_o_newTones a_o_newCurrents a_p1 : Nat) (o_length : Int32) (o_place : Int32) (o_bytes : Nat → Int32) (o_newCurrents : Nat → Int32) (p1_arr : Nat → Int32) (x2 : Int32) (post : (Int32 × Int32 × (Nat → Int32) × (Nat → Int32)) → Prop) (hf : okP (f_X3_readSea n_p1 x2 o_length o_place o_bytes o_newCurrents p1_arr) post) : Ci l (dC, dI) (tyL cyI cyJ cyO) yX3_readSea wsX3_readSea rm_X3_readSea [.ref h_o, .ref a_p1, .int x2] sz (W_X3_readSea cyI cyJ cyO n_p1 h_o a_o_bytes a_o_newFar a_o_newTones a_o_newCurrents a_p1 o_length o_place o_bytes o_newCurrents p1_arr) zN (fun r u => post (r, u)) (fun u => (W_X3_readSea cyI cyJ cyO n_p1 h_o a_o_bytes a_o_newFar a_o_newTones a_o_newCurrents a_p1 o_length u.1 o_bytes u.2.1 u.2.2)) := by
  refine Met.ofW (cc := cX3_readSea) (maxL := 6) (ret := (some .int)) (by decide) rfl ?_
  intro p e s m args below meth c s₁ B hml hv
  obtain ⟨rfl, hsz, hP, hK, hD0, hZ⟩ := hv
  have hx := B.exec
  have hb := B.bytes
  have hr := B.returns
  have hts := atoms_spec (ws := wsX3_readSea) B.pre
  have hown : s.vm.findClass RX3 = some m.cls := findClass_of_methodNamed B.named
  have hlocks := B.notSynchronized
  subst hsz
  have hD := hD0.self (sz := s.heap.size)
  generalize hAe : va_A (W_X3_readSea cyI cyJ cyO n_p1 h_o a_o_bytes a_o_newFar a_o_newTones a_o_newCurrents a_p1 o_length o_place o_bytes o_newCurrents p1_arr) s.heap.size = A at hD hZ ⊢
  have hA : ∀ q : Nat, s.heap.size ≤ q → A q := fun q h => by rw [← hAe]; exact Or.inr h
  clear hAe hD0
  have hS : va_S A s.heap s.heap [] := va_S.rf
  have hl := lv_entry ([.ref h_o, .ref a_p1, .int x2]) (n := 6) (Nat.le_of_ble_eq_true rfl)
  rw [lg_entry_eq]
  generalize (lg_sl ([.ref h_o, .ref a_p1, .int x2]) ++ List.replicate (6 - (lg_sl ([.ref h_o, .ref a_p1, .int x2])).length) Slot.unset).toArray = ls at hl ⊢
  have hl : lv_has ls 6 [(0, .ref h_o), (1, .ref a_p1), (2, .int x2)] := hl
  refine kW (fun Q hQ => ?_)
  have hq0 := hts _ (List.mem_cons_of_mem _ q_233)
  have hi3 : ∀ w ∈ u_ws RX3 TX3 6, w ∈ wsX3_readSea := fun w h => List.mem_cons_of_mem _ (inX3 w h)
  have hq2 := hts _ (List.mem_cons_of_mem _ q_236)
  have hq3 := hts _ (List.mem_cons_of_mem _ q_475)
  have hq4 := hts _ (List.mem_cons_of_mem _ q_407)
  have hq5 := hts _ (List.mem_cons_of_mem _ q_406)
  have hq6 := hts _ (List.mem_cons_of_mem _ q_10)
  have hq7 := hts _ (List.mem_cons_of_mem _ q_231)
  have hw := hf
  have w119 : ∀ (o_place : Int32) (o_newCurrents : Nat → Int32) (p1_arr : Nat → Int32) (H : Heap) (locs : List Loc), va_P (dC, dI) vwCl (W_X3_readSea cyI cyJ cyO n_p1 h_o a_o_bytes a_o_newFar a_o_newTones a_o_newCurrents a_p1 o_length o_place o_bytes o_newCurrents p1_arr) H → va_D A (W_X3_readSea cyI cyJ cyO n_p1 h_o a_o_bytes a_o_newFar a_o_newTones a_o_newCurrents a_p1 o_length o_place o_bytes o_newCurrents p1_arr) → va_S A s.heap H locs → ∀ (ls : Array Slot), lv_has ls 6 [(0, .ref h_o)] → okP (f_X3_readSea_B119 n_p1 o_length o_place o_bytes o_newCurrents p1_arr) post → W p l e (headSpec wsX3_readSea rm_X3_readSea).room s m ([.ref h_o, .ref a_p1, .int x2] : List Value).toArray below meth c H locs 0 0 Q (F0 m 119 ls []) := by
    intro o_place o_newCurrents p1_arr H locs hP hD hS ls hl hw
    unfold f_X3_readSea_B119 at hw
    refine lv_aload_n hx hb dX3_readSea_119 rfl (lv_at hl 0 rfl) ?_
    have hPc := hP.sub (ws' := (W_X3_fault cyI cyJ cyO h_o a_o_bytes a_o_newFar a_o_newTones a_o_newCurrents o_length o_place o_bytes)) [0, 1] rfl
    have hDc := hD.sub (ws' := (W_X3_fault cyI cyJ cyO h_o a_o_bytes a_o_newFar a_o_newTones a_o_newCurrents o_length o_place o_bytes)) [0, 1] (by decide +kernel) rfl
    have hFc := va_free (wc := (W_X3_fault cyI cyJ cyO h_o a_o_bytes a_o_newFar a_o_newTones a_o_newCurrents o_length o_place o_bytes)) hD hS hA [0, 1] rfl
    refine kc_i (wr := [(a_o_newCurrents, .inl (cyI, 10, .inl o_newCurrents)), (a_p1, .inl (cyI, n_p1, .inl p1_arr))]) (va_runV (As := []) (rest := []) ⟨hx, hb, hml, hown, hts⟩ (c_X3_fault l dC dI cyI cyJ cyO H.size h_o a_o_bytes a_o_newFar a_o_newTones a_o_newCurrents o_length o_place o_bytes _ (okb2 hw)) (cwV 0 hts (gdV (fun w h => List.mem_cons_of_mem _ h) q_385 q_387 qs_8 q_6 q_388) rfl rfl rfl (by decide +kernel) ⟨Nat.le_of_ble_eq_true rfl, Nat.le_of_ble_eq_true rfl⟩) ⟨(kpre zN_ok hK hPc hDc trivial hS hFc).1, va_recv hK hP (ci := 3) (q0 := 0) rfl rfl, (kpre zN_ok hK hPc hDc trivial hS hFc).2⟩ rfl rfl hl.1 rfl (lv_room (Nat.le_of_ble_eq_true rfl)) dX3_readSea_120 ⟨Nat.le_of_ble_eq_true rfl, Nat.le_of_ble_eq_true rfl⟩) hP hD hS hFc [0, 1] [2, 3] rfl rfl (by decide +kernel) (by decide +kernel) (fun r_1 w_2 H locs hw hP hD hS => ?_)
    try dsimp only at hw
    have hP : va_P (dC, dI) vwCl (W_X3_readSea cyI cyJ cyO n_p1 h_o a_o_bytes a_o_newFar a_o_newTones a_o_newCurrents a_p1 o_length w_2 o_bytes o_newCurrents p1_arr) H := hP.sub [2, 3, 0, 1] rfl
    have hD : va_D A (W_X3_readSea cyI cyJ cyO n_p1 h_o a_o_bytes a_o_newFar a_o_newTones a_o_newCurrents a_p1 o_length w_2 o_bytes o_newCurrents p1_arr) := hD.sub [2, 3, 0, 1] (by decide +kernel) rfl
    clear hPc hDc hFc
    rw [hQ]
    exact W.iret (v := r_1) hx hb hr (fun t ht hW => ⟨⟨r_1, (w_2, o_newCurrents, p1_arr), rfl, okS hw, by rw [ht]; exact hP, va_K.moved hW.alike hK, hD⟩, hS.F ht⟩) hS.2.2 dX3_readSea_123
  have w54 : ∀ (o_place : Int32) (o_newCurrents : Nat → Int32) (p1_arr : Nat → Int32) (H : Heap) (locs : List Loc), va_P (dC, dI) vwCl (W_X3_readSea cyI cyJ cyO n_p1 h_o a_o_bytes a_o_newFar a_o_newTones a_o_newCurrents a_p1 o_length o_place o_bytes o_newCurrents p1_arr) H → va_D A (W_X3_readSea cyI cyJ cyO n_p1 h_o a_o_bytes a_o_newFar a_o_newTones a_o_newCurrents a_p1 o_length o_place o_bytes o_newCurrents p1_arr) → va_S A s.heap H locs → ∀ (ls : Array Slot), lv_has ls 6 [(0, .ref h_o)] → okP (f_X3_readSea_B54 n_p1 o_length o_place o_bytes o_newCurrents p1_arr) post → W p l e (headSpec wsX3_readSea rm_X3_readSea).room s m ([.ref h_o, .ref a_p1, .int x2] : List Value).toArray below meth c H locs 0 0 Q (F0 m 54 ls []) := by
    intro o_place o_newCurrents p1_arr H locs hP hD hS ls hl hw
    unfold f_X3_readSea_B54 at hw
    refine lv_aload_n hx hb dX3_readSea_54 rfl (lv_at hl 0 rfl) ?_
    have hPc := hP.sub (ws' := (W_X3_fault cyI cyJ cyO h_o a_o_bytes a_o_newFar a_o_newTones a_o_newCurrents o_length o_place o_bytes)) [0, 1] rfl
    have hDc := hD.sub (ws' := (W_X3_fault cyI cyJ cyO h_o a_o_bytes a_o_newFar a_o_newTones a_o_newCurrents o_length o_place o_bytes)) [0, 1] (by decide +kernel) rfl
    have hFc := va_free (wc := (W_X3_fault cyI cyJ cyO h_o a_o_bytes a_o_newFar a_o_newTones a_o_newCurrents o_length o_place o_bytes)) hD hS hA [0, 1] rfl
    refine kc_i (wr := [(a_o_newCurrents, .inl (cyI, 10, .inl o_newCurrents)), (a_p1, .inl (cyI, n_p1, .inl p1_arr))]) (va_runV (As := []) (rest := []) ⟨hx, hb, hml, hown, hts⟩ (c_X3_fault l dC dI cyI cyJ cyO H.size h_o a_o_bytes a_o_newFar a_o_newTones a_o_newCurrents o_length o_place o_bytes _ (okb2 hw)) (cwV 0 hts (gdV (fun w h => List.mem_cons_of_mem _ h) q_385 q_387 qs_8 q_6 q_388) rfl rfl rfl (by decide +kernel) ⟨Nat.le_of_ble_eq_true rfl, Nat.le_of_ble_eq_true rfl⟩) ⟨(kpre zN_ok hK hPc hDc trivial hS hFc).1, va_recv hK hP (ci := 3) (q0 := 0) rfl rfl, (kpre zN_ok hK hPc hDc trivial hS hFc).2⟩ rfl rfl hl.1 rfl (lv_room (Nat.le_of_ble_eq_true rfl)) dX3_readSea_55 ⟨Nat.le_of_ble_eq_true rfl, Nat.le_of_ble_eq_true rfl⟩) hP hD hS hFc [0, 1] [2, 3] rfl rfl (by decide +kernel) (by decide +kernel) (fun r_3 w_4 H locs hw hP hD hS => ?_)
    try dsimp only at hw
    have hP : va_P (dC, dI) vwCl (W_X3_readSea cyI cyJ cyO n_p1 h_o a_o_bytes a_o_newFar a_o_newTones a_o_newCurrents a_p1 o_length w_4 o_bytes o_newCurrents p1_arr) H := hP.sub [2, 3, 0, 1] rfl
    have hD : va_D A (W_X3_readSea cyI cyJ cyO n_p1 h_o a_o_bytes a_o_newFar a_o_newTones a_o_newCurrents a_p1 o_length w_4 o_bytes o_newCurrents p1_arr) := hD.sub [2, 3, 0, 1] (by decide +kernel) rfl
    clear hPc hDc hFc
    rw [hQ]
    exact W.iret (v := r_3) hx hb hr (fun t ht hW => ⟨⟨r_3, (w_4, o_newCurrents, p1_arr), rfl, okS hw, by rw [ht]; exact hP, va_K.moved hW.alike hK, hD⟩, hS.F ht⟩) hS.2.2 dX3_readSea_58
  have w10 : ∀ (n : Nat), ∀ (v2 : Int32) (v3 : Int32) (v4 : Int32) (o_place : Int32) (o_newCurrents : Nat → Int32) (p1_arr : Nat → Int32) (H : Heap) (locs : List Loc), va_P (dC, dI) vwCl (W_X3_readSea cyI cyJ cyO n_p1 h_o a_o_bytes a_o_newFar a_o_newTones a_o_newCurrents a_p1 o_length o_place o_bytes o_newCurrents p1_arr) H → va_D A (W_X3_readSea cyI cyJ cyO n_p1 h_o a_o_bytes a_o_newFar a_o_newTones a_o_newCurrents a_p1 o_length o_place o_bytes o_newCurrents p1_arr) → va_S A s.heap H locs → ∀ (ls : Array Slot), lv_has ls 6 [(0, .ref h_o), (1, .ref a_p1), (2, .int v2), (3, .int v3), (4, .int v4)] → okP (f_X3_readSea_L10 n_p1 n v2 v3 v4 o_length o_place o_bytes o_newCurrents p1_arr) post → W p l e (headSpec wsX3_readSea rm_X3_readSea).room s m ([.ref h_o, .ref a_p1, .int x2] : List Value).toArray below meth c H locs 0 0 Q (F0 m 10 ls []) := by
    intro n
    induction n with
    | zero =>
      intro v2 v3 v4 o_place o_newCurrents p1_arr H locs hP hD hS ls hl hw
      exact (ok0 hw).elim
    | succ n10 ih10 =>
      have w81 : ∀ (v2 : Int32) (v4 : Int32) (y0 : Int32) (y1 : Int32) (o_place : Int32) (o_newCurrents : Nat → Int32) (p1_arr : Nat → Int32) (H : Heap) (locs : List Loc), va_P (dC, dI) vwCl (W_X3_readSea cyI cyJ cyO n_p1 h_o a_o_bytes a_o_newFar a_o_newTones a_o_newCurrents a_p1 o_length o_place o_bytes o_newCurrents p1_arr) H → va_D A (W_X3_readSea cyI cyJ cyO n_p1 h_o a_o_bytes a_o_newFar a_o_newTones a_o_newCurrents a_p1 o_length o_place o_bytes o_newCurrents p1_arr) → va_S A s.heap H locs → ∀ (ls : Array Slot), lv_has ls 6 [(0, .ref h_o), (1, .ref a_p1), (2, .int v2), (4, .int v4)] → okP (f_X3_readSea_B81 n_p1 (f_X3_readSea_L10 n_p1 n10) v2 v4 y0 y1 o_length o_place o_bytes o_newCurrents p1_arr) post → W p l e (headSpec wsX3_readSea rm_X3_readSea).room s m ([.ref h_o, .ref a_p1, .int x2] : List Value).toArray below meth c H locs 0 0 Q (F0 m 81 ls [.int y0, .int y1]) := by
        intro v2 v4 y0 y1 o_place o_newCurrents p1_arr H locs hP hD hS ls hl hw
        unfold f_X3_readSea_B81 at hw
        refine lv_iadd hx hb dX3_readSea_81 ?_
        refine lv_topi (fun x_5 ex_5 => ?_)
        replace hw := okN ex_5 hw
        clear ex_5
        refine lv_istore_n (lv' := [(3, .int x_5), (0, .ref h_o), (1, .ref a_p1), (2, .int v2), (4, .int v4)]) hx hb dX3_readSea_82 rfl hl (by decide) rfl (fun ls hl => ?_)
        refine lv_aload_n hx hb dX3_readSea_83 rfl (lv_at hl 1 rfl) ?_
        refine lv_dup hx hb dX3_readSea_84 rfl ?_
        refine va_get (D := (dC, dI)) (ci := 3) (v := .int o_place) (C := RX3) (T := TX3) (N := 6) hx hb hts hi3 hown hK hP 0 rfl rfl 2 (by decide) hq0 (fun _ h9 => h9) rfl dX3_readSea_85 ?_
        refine lv_iconst (v := 1) hx hb dX3_readSea_88 (by decide) ?_
        refine lv_iadd hx hb dX3_readSea_89 ?_
        refine lv_topi (fun x_6 ex_6 => ?_)
        replace hw := okN ex_6 hw
        clear ex_6
        refine va_put (D := (dC, dI)) (ci := 3) (v := .int x_6) (ty := .int) (C := RX3) (T := TX3) (N := 6) hx hb hts hi3 tyX3 tyX3_ok nmX3 hown hK hP hD hS 0 rfl rfl 2 (by decide) hq0 (fun _ h9 => h9) rfl (by decide +kernel) rfl rfl (Nat.le_of_ble_eq_true rfl) dX3_readSea_90 (fun H locs hP hD hS => ?_)
        have hP : va_P (dC, dI) vwCl (W_X3_readSea cyI cyJ cyO n_p1 h_o a_o_bytes a_o_newFar a_o_newTones a_o_newCurrents a_p1 o_length x_6 o_bytes o_newCurrents p1_arr) H := hP
        have hD : va_D A (W_X3_readSea cyI cyJ cyO n_p1 h_o a_o_bytes a_o_newFar a_o_newTones a_o_newCurrents a_p1 o_length x_6 o_bytes o_newCurrents p1_arr) := hD
        obtain ⟨x_7, ex_7⟩ : ∃ y : Int32, y = v4 + 1 := ⟨_, rfl⟩
        replace hw := okN ex_7 hw
        refine lv_iinc (v := x_7) (lv' := [(4, .int x_7), (3, .int x_5), (0, .ref h_o), (1, .ref a_p1), (2, .int v2)]) hx hb dX3_readSea_93 hl (k := 4) rfl (by rw [ex_7]; rfl) (by decide) rfl (fun ls hl => ?_)
        clear ex_7
        refine lv_goto (tgt := 10) hx hb dX3_readSea_96 (by decide) ?_
        exact ih10 v2 x_5 x_7 x_6 o_newCurrents p1_arr _ _ hP hD hS _ (lv_sub hl [2, 3, 4, 1, 0] rfl) hw
      have w40 : ∀ (v2 : Int32) (v3 : Int32) (v4 : Int32) (y0 : Int32) (o_place : Int32) (o_newCurrents : Nat → Int32) (p1_arr : Nat → Int32) (H : Heap) (locs : List Loc), va_P (dC, dI) vwCl (W_X3_readSea cyI cyJ cyO n_p1 h_o a_o_bytes a_o_newFar a_o_newTones a_o_newCurrents a_p1 o_length o_place o_bytes o_newCurrents p1_arr) H → va_D A (W_X3_readSea cyI cyJ cyO n_p1 h_o a_o_bytes a_o_newFar a_o_newTones a_o_newCurrents a_p1 o_length o_place o_bytes o_newCurrents p1_arr) → va_S A s.heap H locs → ∀ (ls : Array Slot), lv_has ls 6 [(0, .ref h_o), (1, .ref a_p1), (2, .int v2), (3, .int v3), (4, .int v4)] → okP (f_X3_readSea_B40 n_p1 (f_X3_readSea_L10 n_p1 n10) v2 v3 v4 y0 o_length o_place o_bytes o_newCurrents p1_arr) post → W p l e (headSpec wsX3_readSea rm_X3_readSea).room s m ([.ref h_o, .ref a_p1, .int x2] : List Value).toArray below meth c H locs 0 0 Q (F0 m 40 ls [.int y0]) := by
        intro v2 v3 v4 y0 o_place o_newCurrents p1_arr H locs hP hD hS ls hl hw
        unfold f_X3_readSea_B40 at hw
        refine lv_istore (lv' := [(5, .int y0), (0, .ref h_o), (1, .ref a_p1), (2, .int v2), (3, .int v3), (4, .int v4)]) hx hb dX3_readSea_40 hl (by decide) rfl (fun ls hl => ?_)
        refine lv_iload hx hb dX3_readSea_42 (lv_at hl 0 rfl) ?_
        refine lv_if_lt (tgt := 54) hx hb dX3_readSea_44 (by decide) (fun c_8 => ?_) (fun c_8 => ?_)
        · replace hw := okT hw c_8
          clear c_8
          exact w54 o_place o_newCurrents p1_arr _ _ hP hD hS _ (lv_sub hl [1] rfl) hw
        · replace hw := okF hw c_8
          clear c_8
          refine lv_iload hx hb dX3_readSea_47 (lv_at hl 0 rfl) ?_
          refine lv_bipush (v := 8) hx hb dX3_readSea_49 (by decide) ?_
          refine lv_icmp_le (tgt := 59) hx hb dX3_readSea_51 (by decide) (fun c_9 => ?_) (fun c_9 => ?_)
          · replace hw := okT hw c_9
            clear c_9
            refine lv_aload_n hx hb dX3_readSea_59 rfl (lv_at hl 1 rfl) ?_
            refine va_get (D := (dC, dI)) (ci := 3) (v := .ref a_o_newCurrents) (C := RX3) (T := TX3) (N := 6) hx hb hts hi3 hown hK hP 0 rfl rfl 5 (by decide) hq2 (fun _ h9 => h9) rfl dX3_readSea_60 ?_
            refine lv_iload hx hb dX3_readSea_63 (lv_at hl 5 rfl) ?_
            refine lv_iload hx hb dX3_readSea_65 (lv_at hl 0 rfl) ?_
            obtain ⟨h_10, hw⟩ := okC hw
            refine va_iast (i := v4) (x := y0) hx hb hK hP hD hS 2 0 rfl rfl h_10 dX3_readSea_67 (fun H locs hP hD hS => ?_)
            have hP : va_P (dC, dI) vwCl (W_X3_readSea cyI cyJ cyO n_p1 h_o a_o_bytes a_o_newFar a_o_newTones a_o_newCurrents a_p1 o_length o_place o_bytes (upd o_newCurrents v4.toNatClampNeg y0) p1_arr) H := hP
            have hD : va_D A (W_X3_readSea cyI cyJ cyO n_p1 h_o a_o_bytes a_o_newFar a_o_newTones a_o_newCurrents a_p1 o_length o_place o_bytes (upd o_newCurrents v4.toNatClampNeg y0) p1_arr) := hD
            refine lv_iload_n hx hb dX3_readSea_68 rfl (lv_at hl 4 rfl) ?_
            refine lv_iload hx hb dX3_readSea_69 (lv_at hl 0 rfl) ?_
            refine lv_bipush (v := 8) hx hb dX3_readSea_71 (by decide) ?_
            refine lv_icmp_ne (tgt := 80) hx hb dX3_readSea_73 (by decide) (fun c_11 => ?_) (fun c_11 => ?_)
            · replace hw := okF hw c_11
              clear c_11
              refine lv_iconst (v := 1) hx hb dX3_readSea_80 (by decide) ?_
              exact w81 v2 v4 1 v3 o_place (upd o_newCurrents v4.toNatClampNeg y0) p1_arr _ _ hP hD hS _ (lv_sub hl [1, 2, 3, 5] rfl) hw
            · replace hw := okT hw c_11
              clear c_11
              refine lv_iconst (v := 0) hx hb dX3_readSea_76 (by decide) ?_
              refine lv_goto (tgt := 81) hx hb dX3_readSea_77 (by decide) ?_
              exact w81 v2 v4 0 v3 o_place (upd o_newCurrents v4.toNatClampNeg y0) p1_arr _ _ hP hD hS _ (lv_sub hl [1, 2, 3, 5] rfl) hw
          · replace hw := okF hw c_9
            clear c_9
            exact w54 o_place o_newCurrents p1_arr _ _ hP hD hS _ (lv_sub hl [1] rfl) hw
      intro v2 v3 v4 o_place o_newCurrents p1_arr H locs hP hD hS ls hl hw
      replace hw : okP (f_X3_readSea_L10b n_p1 (f_X3_readSea_L10 n_p1 n10) v2 v3 v4 o_length o_place o_bytes o_newCurrents p1_arr) post := hw
      unfold f_X3_readSea_L10b at hw
      refine lv_iload hx hb dX3_readSea_10 (lv_at hl 4 rfl) ?_
      refine lv_bipush (v := 10) hx hb dX3_readSea_12 (by decide) ?_
      refine lv_icmp_ge (tgt := 99) hx hb dX3_readSea_14 (by decide) (fun c_12 => ?_) (fun c_12 => ?_)
      · replace hw := okT hw c_12
        clear c_12
        refine lv_aload_n hx hb dX3_readSea_99 rfl (lv_at hl 0 rfl) ?_
        have hPc := hP.sub (ws' := (W_X3_isAtEnd cyI cyJ cyO h_o a_o_bytes a_o_newFar a_o_newTones a_o_newCurrents o_length o_place o_bytes)) [0, 1] rfl
        have hDc := hD.sub (ws' := (W_X3_isAtEnd cyI cyJ cyO h_o a_o_bytes a_o_newFar a_o_newTones a_o_newCurrents o_length o_place o_bytes)) [0, 1] (by decide +kernel) rfl
        have hFc := va_free (wc := (W_X3_isAtEnd cyI cyJ cyO h_o a_o_bytes a_o_newFar a_o_newTones a_o_newCurrents o_length o_place o_bytes)) hD hS hA [0, 1] rfl
        refine kc_i (wr := [(a_o_newCurrents, .inl (cyI, 10, .inl o_newCurrents)), (a_p1, .inl (cyI, n_p1, .inl p1_arr))]) (va_runV (As := []) (rest := []) ⟨hx, hb, hml, hown, hts⟩ (c_X3_isAtEnd l dC dI cyI cyJ cyO H.size h_o a_o_bytes a_o_newFar a_o_newTones a_o_newCurrents o_length o_place o_bytes _ (okb2 hw)) (cwV 0 hts (gdV (fun w h => List.mem_cons_of_mem _ h) q_377 q_379 qs_6 q_6 q_380) rfl rfl rfl (by decide +kernel) ⟨Nat.le_of_ble_eq_true rfl, Nat.le_of_ble_eq_true rfl⟩) ⟨(kpre zN_ok hK hPc hDc trivial hS hFc).1, va_recv hK hP (ci := 3) (q0 := 0) rfl rfl, (kpre zN_ok hK hPc hDc trivial hS hFc).2⟩ rfl rfl hl.1 rfl (lv_room (Nat.le_of_ble_eq_true rfl)) dX3_readSea_100 ⟨Nat.le_of_ble_eq_true rfl, Nat.le_of_ble_eq_true rfl⟩) hP hD hS hFc [0, 1] [2, 3] rfl rfl (by decide +kernel) (by decide +kernel) (fun r_13 w_14 H locs hw hP hD hS => ?_)
        try dsimp only at hw
        have hP : va_P (dC, dI) vwCl (W_X3_readSea cyI cyJ cyO n_p1 h_o a_o_bytes a_o_newFar a_o_newTones a_o_newCurrents a_p1 o_length w_14 o_bytes o_newCurrents p1_arr) H := hP.sub [2, 3, 0, 1] rfl
        have hD : va_D A (W_X3_readSea cyI cyJ cyO n_p1 h_o a_o_bytes a_o_newFar a_o_newTones a_o_newCurrents a_p1 o_length w_14 o_bytes o_newCurrents p1_arr) := hD.sub [2, 3, 0, 1] (by decide +kernel) rfl
        clear hPc hDc hFc
        refine lv_if_eq (tgt := 119) hx hb dX3_readSea_103 (by decide) (fun c_15 => ?_) (fun c_15 => ?_)
        · replace hw := okT hw c_15
          clear c_15
          exact w119 w_14 o_newCurrents p1_arr _ _ hP hD hS _ (lv_sub hl [0] rfl) hw
        · replace hw := okF hw c_15
          clear c_15
          refine lv_iload_n hx hb dX3_readSea_106 rfl (lv_at hl 2 rfl) ?_
          refine lv_if_lt (tgt := 119) hx hb dX3_readSea_107 (by decide) (fun c_16 => ?_) (fun c_16 => ?_)
          · replace hw := okT hw c_16
            clear c_16
            exact w119 w_14 o_newCurrents p1_arr _ _ hP hD hS _ (lv_sub hl [0] rfl) hw
          · replace hw := okF hw c_16
            clear c_16
            refine lv_iload_n hx hb dX3_readSea_110 rfl (lv_at hl 2 rfl) ?_
            refine lv_aload_n hx hb dX3_readSea_111 rfl (lv_at hl 1 rfl) ?_
            refine va_alen (v := Int32.ofNat n_p1) hx hb hK hP 3 0 rfl rfl rfl dX3_readSea_112 ?_
            refine lv_bipush (v := 10) hx hb dX3_readSea_113 (by decide) ?_
            refine lv_isub hx hb dX3_readSea_115 ?_
            refine lv_icmp_le (tgt := 124) hx hb dX3_readSea_116 (by decide) (fun c_17 => ?_) (fun c_17 => ?_)
            · replace hw := okT hw c_17
              clear c_17
              refine lv_aload_n hx hb dX3_readSea_124 rfl (lv_at hl 0 rfl) ?_
              refine va_get (D := (dC, dI)) (ci := 3) (v := .ref a_o_newCurrents) (C := RX3) (T := TX3) (N := 6) hx hb hts hi3 hown hK hP 0 rfl rfl 5 (by decide) hq2 (fun _ h9 => h9) rfl dX3_readSea_125 ?_
              refine lv_iconst (v := 0) hx hb dX3_readSea_128 (by decide) ?_
              refine lv_aload_n hx hb dX3_readSea_129 rfl (lv_at hl 1 rfl) ?_
              refine lv_iload_n hx hb dX3_readSea_130 rfl (lv_at hl 2 rfl) ?_
              refine lv_bipush (v := 10) hx hb dX3_readSea_131 (by decide) ?_
              obtain ⟨⟨h_18, h_19⟩, hw⟩ := okC hw
              refine va_copyi (sp := 0) (dp := v2) (n := 10) (ty := .int) hx hb (hml.trans hl.1.symm) hown hq3 hq4 hq5 hq6 hK hP hD hS 2 3 0 0 rfl rfl rfl rfl rfl (by decide) h_18 (by decide) (by decide) h_19 (fun _ _ => rfl) (Nat.le_of_ble_eq_true rfl) (Nat.le_of_ble_eq_true rfl) dX3_readSea_133 (fun H locs hP hD hS => ?_)
              have hP : va_P (dC, dI) vwCl (W_X3_readSea cyI cyJ cyO n_p1 h_o a_o_bytes a_o_newFar a_o_newTones a_o_newCurrents a_p1 o_length w_14 o_bytes o_newCurrents (va_cpy o_newCurrents p1_arr 0 v2.toNatClampNeg 10)) H := hP
              have hD : va_D A (W_X3_readSea cyI cyJ cyO n_p1 h_o a_o_bytes a_o_newFar a_o_newTones a_o_newCurrents a_p1 o_length w_14 o_bytes o_newCurrents (va_cpy o_newCurrents p1_arr 0 v2.toNatClampNeg 10)) := hD
              refine lv_iload_n hx hb dX3_readSea_136 rfl (lv_at hl 3 rfl) ?_
              rw [hQ]
              exact W.iret (v := v3) hx hb hr (fun t ht hW => ⟨⟨v3, (w_14, o_newCurrents, va_cpy o_newCurrents p1_arr 0 v2.toNatClampNeg 10), rfl, okS hw, by rw [ht]; exact hP, va_K.moved hW.alike hK, hD⟩, hS.F ht⟩) hS.2.2 dX3_readSea_137
            · replace hw := okF hw c_17
              clear c_17
              exact w119 w_14 o_newCurrents p1_arr _ _ hP hD hS _ (lv_sub hl [0] rfl) hw
      · replace hw := okF hw c_12
        clear c_12
        refine lv_aload_n hx hb dX3_readSea_17 rfl (lv_at hl 0 rfl) ?_
        have hPc := hP.sub (ws' := (W_X3_isAtEnd cyI cyJ cyO h_o a_o_bytes a_o_newFar a_o_newTones a_o_newCurrents o_length o_place o_bytes)) [0, 1] rfl
        have hDc := hD.sub (ws' := (W_X3_isAtEnd cyI cyJ cyO h_o a_o_bytes a_o_newFar a_o_newTones a_o_newCurrents o_length o_place o_bytes)) [0, 1] (by decide +kernel) rfl
        have hFc := va_free (wc := (W_X3_isAtEnd cyI cyJ cyO h_o a_o_bytes a_o_newFar a_o_newTones a_o_newCurrents o_length o_place o_bytes)) hD hS hA [0, 1] rfl
        refine kc_i (wr := [(a_o_newCurrents, .inl (cyI, 10, .inl o_newCurrents)), (a_p1, .inl (cyI, n_p1, .inl p1_arr))]) (va_runV (As := []) (rest := []) ⟨hx, hb, hml, hown, hts⟩ (c_X3_isAtEnd l dC dI cyI cyJ cyO H.size h_o a_o_bytes a_o_newFar a_o_newTones a_o_newCurrents o_length o_place o_bytes _ (okb2 hw)) (cwV 0 hts (gdV (fun w h => List.mem_cons_of_mem _ h) q_377 q_379 qs_6 q_6 q_380) rfl rfl rfl (by decide +kernel) ⟨Nat.le_of_ble_eq_true rfl, Nat.le_of_ble_eq_true rfl⟩) ⟨(kpre zN_ok hK hPc hDc trivial hS hFc).1, va_recv hK hP (ci := 3) (q0 := 0) rfl rfl, (kpre zN_ok hK hPc hDc trivial hS hFc).2⟩ rfl rfl hl.1 rfl (lv_room (Nat.le_of_ble_eq_true rfl)) dX3_readSea_18 ⟨Nat.le_of_ble_eq_true rfl, Nat.le_of_ble_eq_true rfl⟩) hP hD hS hFc [0, 1] [2, 3] rfl rfl (by decide +kernel) (by decide +kernel) (fun r_20 w_21 H locs hw hP hD hS => ?_)
        try dsimp only at hw
        have hP : va_P (dC, dI) vwCl (W_X3_readSea cyI cyJ cyO n_p1 h_o a_o_bytes a_o_newFar a_o_newTones a_o_newCurrents a_p1 o_length w_21 o_bytes o_newCurrents p1_arr) H := hP.sub [2, 3, 0, 1] rfl
        have hD : va_D A (W_X3_readSea cyI cyJ cyO n_p1 h_o a_o_bytes a_o_newFar a_o_newTones a_o_newCurrents a_p1 o_length w_21 o_bytes o_newCurrents p1_arr) := hD.sub [2, 3, 0, 1] (by decide +kernel) rfl
        clear hPc hDc hFc
        refine lv_if_eq (tgt := 28) hx hb dX3_readSea_21 (by decide) (fun c_22 => ?_) (fun c_22 => ?_)
        · replace hw := okT hw c_22
          clear c_22
          refine lv_aload_n hx hb dX3_readSea_28 rfl (lv_at hl 0 rfl) ?_
          refine va_get (D := (dC, dI)) (ci := 3) (v := .ref a_o_bytes) (C := RX3) (T := TX3) (N := 6) hx hb hts hi3 hown hK hP 0 rfl rfl 0 (by decide) hq7 (fun _ h9 => h9) rfl dX3_readSea_29 ?_
          refine lv_aload_n hx hb dX3_readSea_32 rfl (lv_at hl 0 rfl) ?_
          refine va_get (D := (dC, dI)) (ci := 3) (v := .int w_21) (C := RX3) (T := TX3) (N := 6) hx hb hts hi3 hown hK hP 0 rfl rfl 2 (by decide) hq0 (fun _ h9 => h9) rfl dX3_readSea_33 ?_
          obtain ⟨h_23, hw⟩ := okC hw
          refine va_iald (i := w_21) hx hb hK hP 1 0 rfl rfl h_23 dX3_readSea_36 ?_
          refine lv_bipush (v := 48) hx hb dX3_readSea_37 (by decide) ?_
          refine lv_isub hx hb dX3_readSea_39 ?_
          exact w40 v2 v3 v4 ((o_bytes w_21.toNatClampNeg) - 48) w_21 o_newCurrents p1_arr _ _ hP hD hS _ (lv_sub hl [0, 1, 2, 3, 4] rfl) hw
        · replace hw := okF hw c_22
          clear c_22
          refine lv_iconst (v := (-1)) hx hb dX3_readSea_24 (by decide) ?_
          refine lv_goto (tgt := 40) hx hb dX3_readSea_25 (by decide) ?_
          exact w40 v2 v3 v4 (-1) w_21 o_newCurrents p1_arr _ _ hP hD hS _ (lv_sub hl [0, 1, 2, 3, 4] rfl) hw
  unfold f_X3_readSea at hw
  have hP : va_P (dC, dI) vwCl (W_X3_readSea cyI cyJ cyO n_p1 h_o a_o_bytes a_o_newFar a_o_newTones a_o_newCurrents a_p1 o_length o_place o_bytes o_newCurrents p1_arr) s.heap := hP
  obtain ⟨H, hH⟩ : ∃ H, H = s.heap := ⟨_, rfl⟩
  obtain ⟨locs, hlo⟩ : ∃ x : List Loc, x = [] := ⟨_, rfl⟩
  have hP : va_P (dC, dI) vwCl (W_X3_readSea cyI cyJ cyO n_p1 h_o a_o_bytes a_o_newFar a_o_newTones a_o_newCurrents a_p1 o_length o_place o_bytes o_newCurrents p1_arr) H := by rw [hH]; exact hP
  have hS : va_S A s.heap H locs := by rw [hH, hlo]; exact hS
  refine kH hH hlo ?_
  clear hH hlo
  refine lv_aload_n hx hb dX3_readSea_0 rfl (lv_at hl 0 rfl) ?_
  refine lv_iconst (v := 0) hx hb dX3_readSea_1 (by decide) ?_
  refine va_put (D := (dC, dI)) (ci := 3) (v := .int 0) (ty := .int) (C := RX3) (T := TX3) (N := 6) hx hb hts hi3 tyX3 tyX3_ok nmX3 hown hK hP hD hS 0 rfl rfl 2 (by decide) hq0 (fun _ h9 => h9) rfl (by decide +kernel) rfl rfl (Nat.le_of_ble_eq_true rfl) dX3_readSea_2 (fun H locs hP hD hS => ?_)
  have hP : va_P (dC, dI) vwCl (W_X3_readSea cyI cyJ cyO n_p1 h_o a_o_bytes a_o_newFar a_o_newTones a_o_newCurrents a_p1 o_length 0 o_bytes o_newCurrents p1_arr) H := hP
  have hD : va_D A (W_X3_readSea cyI cyJ cyO n_p1 h_o a_o_bytes a_o_newFar a_o_newTones a_o_newCurrents a_p1 o_length 0 o_bytes o_newCurrents p1_arr) := hD
  refine lv_iconst (v := 0) hx hb dX3_readSea_5 (by decide) ?_
  refine lv_istore_n (lv' := [(3, .int 0), (0, .ref h_o), (1, .ref a_p1), (2, .int x2)]) hx hb dX3_readSea_6 rfl hl (by decide) rfl (fun ls hl => ?_)
  refine lv_iconst (v := 0) hx hb dX3_readSea_7 (by decide) ?_
  refine lv_istore (lv' := [(4, .int 0), (3, .int 0), (0, .ref h_o), (1, .ref a_p1), (2, .int x2)]) hx hb dX3_readSea_8 hl (by decide) rfl (fun ls hl => ?_)
  exact w10 FU x2 0 0 0 o_newCurrents p1_arr _ _ hP hD hS _ (lv_sub hl [2, 3, 4, 1, 0] rfl) hw
