/-! ===== X6_within ===== -/
abbrev W_X6_within (cyI cyJ cyO : ClassId) : va_W := []
def f_X6_within (x1 : Int32) (x2 : Int32) (x3 : Int32) : Option (Int32) :=
  if x1 < x2 then
    some 0
  else
    if x3 < x1 then
      some 0
    else
      some 1
abbrev rm_X6_within : Room := { frames := 0, cells := 0, slots := 0, locals := 0 }
set_option maxRecDepth 100000 in
set_option maxHeartbeats 4000000 in
theorem c_X6_within (l : Launch) (dC : Nat → ClassId) (dI : Nat → Nat → Nat) (cyI cyJ cyO : ClassId) (sz : Nat) (x1 : Int32) (x2 : Int32) (x3 : Int32) (post : Int32 → Prop) (hf : okP (f_X6_within x1 x2 x3) post) : Ci l (dC, dI) (tyL cyI cyJ cyO) yX6_within wsX6_within rm_X6_within [.int x1, .int x2, .int x3] sz (W_X6_within cyI cyJ cyO) zN (fun r (_ : Unit) => post r) (fun _ => (W_X6_within cyI cyJ cyO)) := by
  refine Met.ofW (cc := cX6_within) (maxL := 3) (ret := (some .boolean)) (by decide) rfl ?_
  intro p e s m args below meth c s₁ B hml hv
  obtain ⟨rfl, hsz, hP, hK, hD0, hZ⟩ := hv
  have hx := B.exec
  have hb := B.bytes
  have hr := B.returns
  have hts := atoms_spec (ws := wsX6_within) B.pre
  have hown : s.vm.findClass RX6 = some m.cls := findClass_of_methodNamed B.named
  have hlocks := B.notSynchronized
  subst hsz
  have hD := hD0.self (sz := s.heap.size)
  generalize hAe : va_A (W_X6_within cyI cyJ cyO) s.heap.size = A at hD hZ ⊢
  have hA : ∀ q : Nat, s.heap.size ≤ q → A q := fun q h => by rw [← hAe]; exact Or.inr h
  clear hAe hD0
  have hS : va_S A s.heap s.heap [] := va_S.rf
  have hl := lv_entry ([.int x1, .int x2, .int x3]) (n := 3) (Nat.le_of_ble_eq_true rfl)
  rw [lg_entry_eq]
  generalize (lg_sl ([.int x1, .int x2, .int x3]) ++ List.replicate (3 - (lg_sl ([.int x1, .int x2, .int x3])).length) Slot.unset).toArray = ls at hl ⊢
  have hl : lv_has ls 3 [(0, .int x1), (1, .int x2), (2, .int x3)] := hl
  refine kW (fun Q hQ => ?_)
  have hw := hf
  unfold f_X6_within at hw
  have hP : va_P (dC, dI) vwCl (W_X6_within cyI cyJ cyO) s.heap := hP
  obtain ⟨H, hH⟩ : ∃ H, H = s.heap := ⟨_, rfl⟩
  obtain ⟨locs, hlo⟩ : ∃ x : List Loc, x = [] := ⟨_, rfl⟩
  have hP : va_P (dC, dI) vwCl (W_X6_within cyI cyJ cyO) H := by rw [hH]; exact hP
  have hS : va_S A s.heap H locs := by rw [hH, hlo]; exact hS
  refine kH hH hlo ?_
  clear hH hlo
  refine lv_iload_n hx hb dX6_within_0 rfl (lv_at hl 0 rfl) ?_
  refine lv_iload_n hx hb dX6_within_1 rfl (lv_at hl 1 rfl) ?_
  refine lv_icmp_lt (tgt := 14) hx hb dX6_within_2 (by decide) (fun c_1 => ?_) (fun c_1 => ?_)
  · replace hw := okT hw c_1
    clear c_1
    refine lv_iconst (v := 0) hx hb dX6_within_14 (by decide) ?_
    rw [hQ]
    exact W.zret (v := 0) hx hb hr (by decide) (fun t ht hW => ⟨⟨0, (), rfl, okS hw, by rw [ht]; exact hP, va_K.moved hW.alike hK, hD⟩, hS.F ht⟩) hS.2.2 dX6_within_15
  · replace hw := okF hw c_1
    clear c_1
    refine lv_iload_n hx hb dX6_within_5 rfl (lv_at hl 0 rfl) ?_
    refine lv_iload_n hx hb dX6_within_6 rfl (lv_at hl 2 rfl) ?_
    refine lv_icmp_gt (tgt := 14) hx hb dX6_within_7 (by decide) (fun c_2 => ?_) (fun c_2 => ?_)
    · replace hw := okT hw c_2
      clear c_2
      refine lv_iconst (v := 0) hx hb dX6_within_14 (by decide) ?_
      rw [hQ]
      exact W.zret (v := 0) hx hb hr (by decide) (fun t ht hW => ⟨⟨0, (), rfl, okS hw, by rw [ht]; exact hP, va_K.moved hW.alike hK, hD⟩, hS.F ht⟩) hS.2.2 dX6_within_15
    · replace hw := okF hw c_2
      clear c_2
      refine lv_iconst (v := 1) hx hb dX6_within_10 (by decide) ?_
      refine lv_goto (tgt := 15) hx hb dX6_within_11 (by decide) ?_
      rw [hQ]
      exact W.zret (v := 1) hx hb hr (by decide) (fun t ht hW => ⟨⟨1, (), rfl, okS hw, by rw [ht]; exact hP, va_K.moved hW.alike hK, hD⟩, hS.F ht⟩) hS.2.2 dX6_within_15
/-! ===== X6_ahead ===== -/
abbrev W_X6_ahead (cyI cyJ cyO : ClassId) : va_W := []
def f_X6_ahead_B76 (v3 : Int32) (v4 : Int32) (y0 : Int32) : Option (Int32) :=
  if y0 = 0 then
    some (-1)
  else
    some ((10 * v3) + v4)
def f_X6_ahead_B75 (v3 : Int32) (v4 : Int32) : Option (Int32) :=
  f_X6_ahead_B76 v3 v4 0
def f_X6_ahead (x1 : Int32) (x2 : Int32) (x3 : Int32) : Option (Int32) :=
  if x1 < 0 then
    some (-1)
  else
    if 100 ≤ x1 then
      some (-1)
    else
      if x2 < 0 then
        some (-1)
      else
        if x2 < 8 then
          chk (¬ (x2 < 0 ∨ 8 ≤ x2.toNatClampNeg)) <|
          nm ((x1 / 10) + (x3 * (tabD x2.toNatClampNeg))) fun x_1 =>
          chk (¬ (x2 < 0 ∨ 8 ≤ x2.toNatClampNeg)) <|
          nm ((x1 - x1 / 10 * 10) + (x3 * (tabR x2.toNatClampNeg))) fun x_2 =>
          if x_1 < 0 then
            f_X6_ahead_B75 x_1 x_2
          else
            if 10 ≤ x_1 then
              f_X6_ahead_B75 x_1 x_2
            else
              if x_2 < 0 then
                f_X6_ahead_B75 x_1 x_2
              else
                if 10 ≤ x_2 then
                  f_X6_ahead_B75 x_1 x_2
                else
                  f_X6_ahead_B76 x_1 x_2 1
        else
          some (-1)
abbrev rm_X6_ahead : Room := { frames := 0, cells := 0, slots := 0, locals := 0 }
set_option maxRecDepth 100000 in
set_option maxHeartbeats 4000000 in
theorem c_X6_ahead (l : Launch) (dC : Nat → ClassId) (dI : Nat → Nat → Nat) (cyI cyJ cyO : ClassId) (sz : Nat) (tD tR tL tM : Nat) (x1 : Int32) (x2 : Int32) (x3 : Int32) (post : Int32 → Prop) (hf : okP (f_X6_ahead x1 x2 x3) post) : Ci l (dC, dI) (tyL cyI cyJ cyO) yX6_ahead wsX6_ahead rm_X6_ahead [.int x1, .int x2, .int x3] sz (W_X6_ahead cyI cyJ cyO) (zX tD tR tL tM) (fun r (_ : Unit) => post r) (fun _ => (W_X6_ahead cyI cyJ cyO)) := by
  refine Met.ofW (cc := cX6_ahead) (maxL := 6) (ret := (some .int)) (by decide) rfl ?_
  intro p e s m args below meth c s₁ B hml hv
  obtain ⟨rfl, hsz, hP, hK, hD0, hZ⟩ := hv
  have hx := B.exec
  have hb := B.bytes
  have hr := B.returns
  have hts := atoms_spec (ws := wsX6_ahead) B.pre
  have hown : s.vm.findClass RX6 = some m.cls := findClass_of_methodNamed B.named
  have hlocks := B.notSynchronized
  subst hsz
  have hD := hD0.self (sz := s.heap.size)
  generalize hAe : va_A (W_X6_ahead cyI cyJ cyO) s.heap.size = A at hD hZ ⊢
  have hA : ∀ q : Nat, s.heap.size ≤ q → A q := fun q h => by rw [← hAe]; exact Or.inr h
  clear hAe hD0
  have hS : va_S A s.heap s.heap [] := va_S.rf
  have hl := lv_entry ([.int x1, .int x2, .int x3]) (n := 6) (Nat.le_of_ble_eq_true rfl)
  rw [lg_entry_eq]
  generalize (lg_sl ([.int x1, .int x2, .int x3]) ++ List.replicate (6 - (lg_sl ([.int x1, .int x2, .int x3])).length) Slot.unset).toArray = ls at hl ⊢
  have hl : lv_has ls 6 [(0, .int x1), (1, .int x2), (2, .int x3)] := hl
  refine kW (fun Q hQ => ?_)
  have hq0 := hts (.fieldLink RX6 301 "SevenRings" "DOWN" "[I") (by decide +kernel)
  have hq1 := hts (.fieldLink RX6 304 "SevenRings" "RIGHT" "[I") (by decide +kernel)
  have hw := hf
  have w76 : ∀ (v3 : Int32) (v4 : Int32) (y0 : Int32) (H : Heap) (locs : List Loc), va_P (dC, dI) vwCl (W_X6_ahead cyI cyJ cyO) H → va_D A (W_X6_ahead cyI cyJ cyO) → va_S A s.heap H locs → ∀ (ls : Array Slot), lv_has ls 6 [(3, .int v3), (4, .int v4)] → okP (f_X6_ahead_B76 v3 v4 y0) post → W p l e (headSpec wsX6_ahead rm_X6_ahead).room s m ([.int x1, .int x2, .int x3] : List Value).toArray below meth c H locs 0 0 Q (F0 m 76 ls [.int y0]) := by
    intro v3 v4 y0 H locs hP hD hS ls hl hw
    unfold f_X6_ahead_B76 at hw
    refine lv_istore (lv' := [(5, .int y0), (3, .int v3), (4, .int v4)]) hx hb dX6_ahead_76 hl (by decide) rfl (fun ls hl => ?_)
    refine lv_iload hx hb dX6_ahead_78 (lv_at hl 0 rfl) ?_
    refine lv_if_eq (tgt := 93) hx hb dX6_ahead_80 (by decide) (fun c_1 => ?_) (fun c_1 => ?_)
    · replace hw := okT hw c_1
      clear c_1
      refine lv_iconst (v := (-1)) hx hb dX6_ahead_93 (by decide) ?_
      rw [hQ]
      exact W.iret (v := (-1)) hx hb hr (fun t ht hW => ⟨⟨(-1), (), rfl, okS hw, by rw [ht]; exact hP, va_K.moved hW.alike hK, hD⟩, hS.F ht⟩) hS.2.2 dX6_ahead_94
    · replace hw := okF hw c_1
      clear c_1
      refine lv_bipush (v := 10) hx hb dX6_ahead_83 (by decide) ?_
      refine lv_iload_n hx hb dX6_ahead_85 rfl (lv_at hl 1 rfl) ?_
      refine lv_imul hx hb dX6_ahead_86 ?_
      refine lv_iload hx hb dX6_ahead_87 (lv_at hl 2 rfl) ?_
      refine lv_iadd hx hb dX6_ahead_89 ?_
      refine lv_goto (tgt := 94) hx hb dX6_ahead_90 (by decide) ?_
      rw [hQ]
      exact W.iret (v := (10 * v3) + v4) hx hb hr (fun t ht hW => ⟨⟨(10 * v3) + v4, (), rfl, okS hw, by rw [ht]; exact hP, va_K.moved hW.alike hK, hD⟩, hS.F ht⟩) hS.2.2 dX6_ahead_94
  have w75 : ∀ (v3 : Int32) (v4 : Int32) (H : Heap) (locs : List Loc), va_P (dC, dI) vwCl (W_X6_ahead cyI cyJ cyO) H → va_D A (W_X6_ahead cyI cyJ cyO) → va_S A s.heap H locs → ∀ (ls : Array Slot), lv_has ls 6 [(3, .int v3), (4, .int v4)] → okP (f_X6_ahead_B75 v3 v4) post → W p l e (headSpec wsX6_ahead rm_X6_ahead).room s m ([.int x1, .int x2, .int x3] : List Value).toArray below meth c H locs 0 0 Q (F0 m 75 ls []) := by
    intro v3 v4 H locs hP hD hS ls hl hw
    unfold f_X6_ahead_B75 at hw
    refine lv_iconst (v := 0) hx hb dX6_ahead_75 (by decide) ?_
    exact w76 v3 v4 0 _ _ hP hD hS _ (lv_sub hl [0, 1] rfl) hw
  unfold f_X6_ahead at hw
  have hP : va_P (dC, dI) vwCl (W_X6_ahead cyI cyJ cyO) s.heap := hP
  obtain ⟨H, hH⟩ : ∃ H, H = s.heap := ⟨_, rfl⟩
  obtain ⟨locs, hlo⟩ : ∃ x : List Loc, x = [] := ⟨_, rfl⟩
  have hP : va_P (dC, dI) vwCl (W_X6_ahead cyI cyJ cyO) H := by rw [hH]; exact hP
  have hS : va_S A s.heap H locs := by rw [hH, hlo]; exact hS
  refine kH hH hlo ?_
  clear hH hlo
  refine lv_iload_n hx hb dX6_ahead_0 rfl (lv_at hl 0 rfl) ?_
  refine lv_if_lt (tgt := 20) hx hb dX6_ahead_1 (by decide) (fun c_2 => ?_) (fun c_2 => ?_)
  · replace hw := okT hw c_2
    clear c_2
    refine lv_iconst (v := (-1)) hx hb dX6_ahead_20 (by decide) ?_
    rw [hQ]
    exact W.iret (v := (-1)) hx hb hr (fun t ht hW => ⟨⟨(-1), (), rfl, okS hw, by rw [ht]; exact hP, va_K.moved hW.alike hK, hD⟩, hS.F ht⟩) hS.2.2 dX6_ahead_21
  · replace hw := okF hw c_2
    clear c_2
    refine lv_iload_n hx hb dX6_ahead_4 rfl (lv_at hl 0 rfl) ?_
    refine lv_bipush (v := 100) hx hb dX6_ahead_5 (by decide) ?_
    refine lv_icmp_ge (tgt := 20) hx hb dX6_ahead_7 (by decide) (fun c_3 => ?_) (fun c_3 => ?_)
    · replace hw := okT hw c_3
      clear c_3
      refine lv_iconst (v := (-1)) hx hb dX6_ahead_20 (by decide) ?_
      rw [hQ]
      exact W.iret (v := (-1)) hx hb hr (fun t ht hW => ⟨⟨(-1), (), rfl, okS hw, by rw [ht]; exact hP, va_K.moved hW.alike hK, hD⟩, hS.F ht⟩) hS.2.2 dX6_ahead_21
    · replace hw := okF hw c_3
      clear c_3
      refine lv_iload_n hx hb dX6_ahead_10 rfl (lv_at hl 1 rfl) ?_
      refine lv_if_lt (tgt := 20) hx hb dX6_ahead_11 (by decide) (fun c_4 => ?_) (fun c_4 => ?_)
      · replace hw := okT hw c_4
        clear c_4
        refine lv_iconst (v := (-1)) hx hb dX6_ahead_20 (by decide) ?_
        rw [hQ]
        exact W.iret (v := (-1)) hx hb hr (fun t ht hW => ⟨⟨(-1), (), rfl, okS hw, by rw [ht]; exact hP, va_K.moved hW.alike hK, hD⟩, hS.F ht⟩) hS.2.2 dX6_ahead_21
      · replace hw := okF hw c_4
        clear c_4
        refine lv_iload_n hx hb dX6_ahead_14 rfl (lv_at hl 1 rfl) ?_
        refine lv_bipush (v := 8) hx hb dX6_ahead_15 (by decide) ?_
        refine lv_icmp_lt (tgt := 22) hx hb dX6_ahead_17 (by decide) (fun c_5 => ?_) (fun c_5 => ?_)
        · replace hw := okT hw c_5
          clear c_5
          refine lv_iload_n hx hb dX6_ahead_22 rfl (lv_at hl 0 rfl) ?_
          refine lv_bipush (v := 10) hx hb dX6_ahead_23 (by decide) ?_
          refine lv_idiv hx hb dX6_ahead_25 (by decide) ?_
          refine lv_iload_n hx hb dX6_ahead_26 rfl (lv_at hl 2 rfl) ?_
          refine va_gets (v := .ref tD) hx hb hZ.1 hS hown hq0 (fun _ h9 => h9) dX6_ahead_27 ?_
          refine lv_iload_n hx hb dX6_ahead_30 rfl (lv_at hl 1 rfl) ?_
          obtain ⟨h_6, hw⟩ := okC hw
          refine va_ti (v := .int (tabD x2.toNatClampNeg)) hx hb hZ.2.1 hS h_6 rfl dX6_ahead_31 ?_
          refine lv_imul hx hb dX6_ahead_32 ?_
          refine lv_iadd hx hb dX6_ahead_33 ?_
          refine lv_topi (fun x_7 ex_7 => ?_)
          replace hw := okN ex_7 hw
          clear ex_7
          refine lv_istore_n (lv' := [(3, .int x_7), (0, .int x1), (1, .int x2), (2, .int x3)]) hx hb dX6_ahead_34 rfl hl (by decide) rfl (fun ls hl => ?_)
          refine lv_iload_n hx hb dX6_ahead_35 rfl (lv_at hl 1 rfl) ?_
          refine lv_bipush (v := 10) hx hb dX6_ahead_36 (by decide) ?_
          refine lv_irem hx hb dX6_ahead_38 (by decide) ?_
          refine lv_iload_n hx hb dX6_ahead_39 rfl (lv_at hl 3 rfl) ?_
          refine va_gets (v := .ref tR) hx hb hZ.2.2.1 hS hown hq1 (fun _ h9 => h9) dX6_ahead_40 ?_
          refine lv_iload_n hx hb dX6_ahead_43 rfl (lv_at hl 2 rfl) ?_
          obtain ⟨h_8, hw⟩ := okC hw
          refine va_ti (v := .int (tabR x2.toNatClampNeg)) hx hb hZ.2.2.2.1 hS h_8 rfl dX6_ahead_44 ?_
          refine lv_imul hx hb dX6_ahead_45 ?_
          refine lv_iadd hx hb dX6_ahead_46 ?_
          refine lv_topi (fun x_9 ex_9 => ?_)
          replace hw := okN ex_9 hw
          clear ex_9
          refine lv_istore (lv' := [(4, .int x_9), (3, .int x_7), (0, .int x1), (1, .int x2), (2, .int x3)]) hx hb dX6_ahead_47 hl (by decide) rfl (fun ls hl => ?_)
          refine lv_iload_n hx hb dX6_ahead_49 rfl (lv_at hl 1 rfl) ?_
          refine lv_if_lt (tgt := 75) hx hb dX6_ahead_50 (by decide) (fun c_10 => ?_) (fun c_10 => ?_)
          · replace hw := okT hw c_10
            clear c_10
            exact w75 x_7 x_9 _ _ hP hD hS _ (lv_sub hl [1, 0] rfl) hw
          · replace hw := okF hw c_10
            clear c_10
            refine lv_iload_n hx hb dX6_ahead_53 rfl (lv_at hl 1 rfl) ?_
            refine lv_bipush (v := 10) hx hb dX6_ahead_54 (by decide) ?_
            refine lv_icmp_ge (tgt := 75) hx hb dX6_ahead_56 (by decide) (fun c_11 => ?_) (fun c_11 => ?_)
            · replace hw := okT hw c_11
              clear c_11
              exact w75 x_7 x_9 _ _ hP hD hS _ (lv_sub hl [1, 0] rfl) hw
            · replace hw := okF hw c_11
              clear c_11
              refine lv_iload hx hb dX6_ahead_59 (lv_at hl 0 rfl) ?_
              refine lv_if_lt (tgt := 75) hx hb dX6_ahead_61 (by decide) (fun c_12 => ?_) (fun c_12 => ?_)
              · replace hw := okT hw c_12
                clear c_12
                exact w75 x_7 x_9 _ _ hP hD hS _ (lv_sub hl [1, 0] rfl) hw
              · replace hw := okF hw c_12
                clear c_12
                refine lv_iload hx hb dX6_ahead_64 (lv_at hl 0 rfl) ?_
                refine lv_bipush (v := 10) hx hb dX6_ahead_66 (by decide) ?_
                refine lv_icmp_ge (tgt := 75) hx hb dX6_ahead_68 (by decide) (fun c_13 => ?_) (fun c_13 => ?_)
                · replace hw := okT hw c_13
                  clear c_13
                  exact w75 x_7 x_9 _ _ hP hD hS _ (lv_sub hl [1, 0] rfl) hw
                · replace hw := okF hw c_13
                  clear c_13
                  refine lv_iconst (v := 1) hx hb dX6_ahead_71 (by decide) ?_
                  refine lv_goto (tgt := 76) hx hb dX6_ahead_72 (by decide) ?_
                  exact w76 x_7 x_9 1 _ _ hP hD hS _ (lv_sub hl [1, 0] rfl) hw
        · replace hw := okF hw c_5
          clear c_5
          refine lv_iconst (v := (-1)) hx hb dX6_ahead_20 (by decide) ?_
          rw [hQ]
          exact W.iret (v := (-1)) hx hb hr (fun t ht hW => ⟨⟨(-1), (), rfl, okS hw, by rw [ht]; exact hP, va_K.moved hW.alike hK, hD⟩, hS.F ht⟩) hS.2.2 dX6_ahead_21
/-! ===== X4_wholeRoot ===== -/
abbrev W_X4_wholeRoot (cyI cyJ cyO : ClassId) : va_W := []
def f_X4_wholeRoot_L2b (k2 : Int32 → Int32 → Option (Int32)) (v0 : Int32) (v1 : Int32) : Option (Int32) :=
  if 100 ≤ v1 then
    some v1
  else
    if v0 < ((v1 + 1) * (v1 + 1)) then
      some v1
    else
      nm (v1 + 1) fun x_1 =>
      k2 v0 x_1
def f_X4_wholeRoot_L2 : Nat → Int32 → Int32 → Option (Int32)
  | 0 => fun _ _ => none
  | n + 1 => f_X4_wholeRoot_L2b (f_X4_wholeRoot_L2 n)
def f_X4_wholeRoot (x1 : Int32) : Option (Int32) :=
  f_X4_wholeRoot_L2 FU x1 0
abbrev rm_X4_wholeRoot : Room := { frames := 0, cells := 0, slots := 0, locals := 0 }
set_option maxRecDepth 100000 in
set_option maxHeartbeats 4000000 in
theorem c_X4_wholeRoot (l : Launch) (dC : Nat → ClassId) (dI : Nat → Nat → Nat) (cyI cyJ cyO : ClassId) (sz : Nat) (x1 : Int32) (post : Int32 → Prop) (hf : okP (f_X4_wholeRoot x1) post) : Ci l (dC, dI) (tyL cyI cyJ cyO) yX4_wholeRoot wsX4_wholeRoot rm_X4_wholeRoot [.int x1] sz (W_X4_wholeRoot cyI cyJ cyO) zN (fun r (_ : Unit) => post r) (fun _ => (W_X4_wholeRoot cyI cyJ cyO)) := by
  refine Met.ofW (cc := cX4_wholeRoot) (maxL := 2) (ret := (some .int)) (by decide) rfl ?_
  intro p e s m args below meth c s₁ B hml hv
  obtain ⟨rfl, hsz, hP, hK, hD0, hZ⟩ := hv
  have hx := B.exec
  have hb := B.bytes
  have hr := B.returns
  have hts := atoms_spec (ws := wsX4_wholeRoot) B.pre
  have hown : s.vm.findClass RX4 = some m.cls := findClass_of_methodNamed B.named
  have hlocks := B.notSynchronized
  subst hsz
  have hD := hD0.self (sz := s.heap.size)
  generalize hAe : va_A (W_X4_wholeRoot cyI cyJ cyO) s.heap.size = A at hD hZ ⊢
  have hA : ∀ q : Nat, s.heap.size ≤ q → A q := fun q h => by rw [← hAe]; exact Or.inr h
  clear hAe hD0
  have hS : va_S A s.heap s.heap [] := va_S.rf
  have hl := lv_entry ([.int x1]) (n := 2) (Nat.le_of_ble_eq_true rfl)
  rw [lg_entry_eq]
  generalize (lg_sl ([.int x1]) ++ List.replicate (2 - (lg_sl ([.int x1])).length) Slot.unset).toArray = ls at hl ⊢
  have hl : lv_has ls 2 [(0, .int x1)] := hl
  refine kW (fun Q hQ => ?_)
  have hw := hf
  have w2 : ∀ (n : Nat), ∀ (v0 : Int32) (v1 : Int32) (H : Heap) (locs : List Loc), va_P (dC, dI) vwCl (W_X4_wholeRoot cyI cyJ cyO) H → va_D A (W_X4_wholeRoot cyI cyJ cyO) → va_S A s.heap H locs → ∀ (ls : Array Slot), lv_has ls 2 [(0, .int v0), (1, .int v1)] → okP (f_X4_wholeRoot_L2 n v0 v1) post → W p l e (headSpec wsX4_wholeRoot rm_X4_wholeRoot).room s m ([.int x1] : List Value).toArray below meth c H locs 0 0 Q (F0 m 2 ls []) := by
    intro n
    induction n with
    | zero =>
      intro v0 v1 H locs hP hD hS ls hl hw
      exact (ok0 hw).elim
    | succ n2 ih2 =>
      intro v0 v1 H locs hP hD hS ls hl hw
      replace hw : okP (f_X4_wholeRoot_L2b (f_X4_wholeRoot_L2 n2) v0 v1) post := hw
      unfold f_X4_wholeRoot_L2b at hw
      refine lv_iload_n hx hb dX4_wholeRoot_2 rfl (lv_at hl 1 rfl) ?_
      refine lv_bipush (v := 100) hx hb dX4_wholeRoot_3 (by decide) ?_
      refine lv_icmp_ge (tgt := 25) hx hb dX4_wholeRoot_5 (by decide) (fun c_1 => ?_) (fun c_1 => ?_)
      · replace hw := okT hw c_1
        clear c_1
        refine lv_iload_n hx hb dX4_wholeRoot_25 rfl (lv_at hl 1 rfl) ?_
        rw [hQ]
        exact W.iret (v := v1) hx hb hr (fun t ht hW => ⟨⟨v1, (), rfl, okS hw, by rw [ht]; exact hP, va_K.moved hW.alike hK, hD⟩, hS.F ht⟩) hS.2.2 dX4_wholeRoot_26
      · replace hw := okF hw c_1
        clear c_1
        refine lv_iload_n hx hb dX4_wholeRoot_8 rfl (lv_at hl 1 rfl) ?_
        refine lv_iconst (v := 1) hx hb dX4_wholeRoot_9 (by decide) ?_
        refine lv_iadd hx hb dX4_wholeRoot_10 ?_
        refine lv_iload_n hx hb dX4_wholeRoot_11 rfl (lv_at hl 1 rfl) ?_
        refine lv_iconst (v := 1) hx hb dX4_wholeRoot_12 (by decide) ?_
        refine lv_iadd hx hb dX4_wholeRoot_13 ?_
        refine lv_imul hx hb dX4_wholeRoot_14 ?_
        refine lv_iload_n hx hb dX4_wholeRoot_15 rfl (lv_at hl 0 rfl) ?_
        refine lv_icmp_gt (tgt := 25) hx hb dX4_wholeRoot_16 (by decide) (fun c_2 => ?_) (fun c_2 => ?_)
        · replace hw := okT hw c_2
          clear c_2
          refine lv_iload_n hx hb dX4_wholeRoot_25 rfl (lv_at hl 1 rfl) ?_
          rw [hQ]
          exact W.iret (v := v1) hx hb hr (fun t ht hW => ⟨⟨v1, (), rfl, okS hw, by rw [ht]; exact hP, va_K.moved hW.alike hK, hD⟩, hS.F ht⟩) hS.2.2 dX4_wholeRoot_26
        · replace hw := okF hw c_2
          clear c_2
          obtain ⟨x_3, ex_3⟩ : ∃ y : Int32, y = v1 + 1 := ⟨_, rfl⟩
          replace hw := okN ex_3 hw
          refine lv_iinc (v := x_3) (lv' := [(1, .int x_3), (0, .int v0)]) hx hb dX4_wholeRoot_19 hl (k := 1) rfl (by rw [ex_3]; rfl) (by decide) rfl (fun ls hl => ?_)
          clear ex_3
          refine lv_goto (tgt := 2) hx hb dX4_wholeRoot_22 (by decide) ?_
          exact ih2 v0 x_3 _ _ hP hD hS _ (lv_sub hl [1, 0] rfl) hw
  unfold f_X4_wholeRoot at hw
  have hP : va_P (dC, dI) vwCl (W_X4_wholeRoot cyI cyJ cyO) s.heap := hP
  obtain ⟨H, hH⟩ : ∃ H, H = s.heap := ⟨_, rfl⟩
  obtain ⟨locs, hlo⟩ : ∃ x : List Loc, x = [] := ⟨_, rfl⟩
  have hP : va_P (dC, dI) vwCl (W_X4_wholeRoot cyI cyJ cyO) H := by rw [hH]; exact hP
  have hS : va_S A s.heap H locs := by rw [hH, hlo]; exact hS
  refine kH hH hlo ?_
  clear hH hlo
  refine lv_iconst (v := 0) hx hb dX4_wholeRoot_0 (by decide) ?_
  refine lv_istore_n (lv' := [(1, .int 0), (0, .int x1)]) hx hb dX4_wholeRoot_1 rfl hl (by decide) rfl (fun ls hl => ?_)
  exact w2 FU x1 0 _ _ hP hD hS _ (lv_sub hl [1, 0] rfl) hw
/-! ===== X4_look ===== -/
abbrev W_X4_look (cyI cyJ cyO : ClassId) (h_o a_o_settings a_o_howFar a_o_tones a_o_currents a_o_warmths a_o_depths a_o_fars a_o_pieceCells a_o_pieceMonths a_o_pieceHighs a_o_pieceAges a_o_pieceNeeds a_o_dragCells a_o_dragEighths : Nat) (o_pieceCount : Int32) (o_dragCount : Int32) (o_settings : Nat → Int32) (o_fars : Nat → Int32) : va_W := [(h_o, .inr (4, [.ref a_o_settings, .ref a_o_howFar, .ref a_o_tones, .ref a_o_currents, .ref a_o_warmths, .ref a_o_depths, .ref a_o_fars, .ref a_o_pieceCells, .ref a_o_pieceMonths, .ref a_o_pieceHighs, .ref a_o_pieceAges, .ref a_o_pieceNeeds, .ref a_o_dragCells, .ref a_o_dragEighths, .int o_pieceCount, .int o_dragCount])), (a_o_settings, .inl (cyI, 8, .inl o_settings)), (a_o_fars, .inl (cyI, 100, .inl o_fars))]
def f_X4_look_L9b (k9 : Int32 → Int32 → (Nat → Int32) → (Nat → Int32) → Option ((Nat → Int32))) (v1 : Int32) (v2 : Int32) (o_settings : Nat → Int32) (o_fars : Nat → Int32) : Option ((Nat → Int32)) :=
  if 100 ≤ v2 then
    some o_fars
  else
    nm ((v2 / 10) - (v1 / 10)) fun x_1 =>
    nm ((v2 - v2 / 10 * 10) - (v1 - v1 / 10 * 10)) fun x_2 =>
    bd1 (f_X4_wholeRoot (4 * ((x_1 * x_1) + (x_2 * x_2)))) fun r_3 =>
    chk (¬ (v2 < 0 ∨ 100 ≤ v2.toNatClampNeg)) <|
    nm (v2 + 1) fun x_4 =>
    k9 v1 x_4 o_settings (upd o_fars v2.toNatClampNeg r_3)
def f_X4_look_L9 : Nat → Int32 → Int32 → (Nat → Int32) → (Nat → Int32) → Option ((Nat → Int32))
  | 0 => fun _ _ _ _ => none
  | n + 1 => f_X4_look_L9b (f_X4_look_L9 n)
def f_X4_look (o_settings : Nat → Int32) (o_fars : Nat → Int32) : Option ((Nat → Int32)) :=
  nm (o_settings 0) fun x_5 =>
  f_X4_look_L9 FU x_5 0 o_settings o_fars
abbrev rm_X4_look : Room := { frames := 1, cells := 0, slots := 0, locals := 21 }
set_option maxRecDepth 100000 in
set_option maxHeartbeats 4000000 in
theorem c_X4_look (l : Launch) (dC : Nat → ClassId) (dI : Nat → Nat → Nat) (cyI cyJ cyO : ClassId) (sz : Nat) (h_o a_o_settings a_o_howFar a_o_tones a_o_currents a_o_warmths a_o_depths a_o_fars a_o_pieceCells a_o_pieceMonths a_o_pieceHighs a_o_pieceAges a_o_pieceNeeds a_o_dragCells a_o_dragEighths : Nat) (o_pieceCount : Int32) (o_dragCount : Int32) (o_settings : Nat → Int32) (o_fars : Nat → Int32) (post : ((Nat → Int32)) → Prop) (hf : okP (f_X4_look o_settings o_fars) post) : Cv l (dC, dI) (tyL cyI cyJ cyO) yX4_look wsX4_look rm_X4_look [.ref h_o] sz (W_X4_look cyI cyJ cyO h_o a_o_settings a_o_howFar a_o_tones a_o_currents a_o_warmths a_o_depths a_o_fars a_o_pieceCells a_o_pieceMonths a_o_pieceHighs a_o_pieceAges a_o_pieceNeeds a_o_dragCells a_o_dragEighths o_pieceCount o_dragCount o_settings o_fars) zN (fun u => post u) (fun u => (W_X4_look cyI cyJ cyO h_o a_o_settings a_o_howFar a_o_tones a_o_currents a_o_warmths a_o_depths a_o_fars a_o_pieceCells a_o_pieceMonths a_o_pieceHighs a_o_pieceAges a_o_pieceNeeds a_o_dragCells a_o_dragEighths o_pieceCount o_dragCount o_settings u)) := by
  refine Met.ofW (cc := cX4_look) (maxL := 5) (ret := none) (by decide) rfl ?_
  intro p e s m args below meth c s₁ B hml hv
  obtain ⟨rfl, hsz, hP, hK, hD0, hZ⟩ := hv
  have hx := B.exec
  have hb := B.bytes
  have hr := B.returns
  have hts := atoms_spec (ws := wsX4_look) B.pre
  have hown : s.vm.findClass RX4 = some m.cls := findClass_of_methodNamed B.named
  have hlocks := B.notSynchronized
  subst hsz
  have hD := hD0.self (sz := s.heap.size)
  generalize hAe : va_A (W_X4_look cyI cyJ cyO h_o a_o_settings a_o_howFar a_o_tones a_o_currents a_o_warmths a_o_depths a_o_fars a_o_pieceCells a_o_pieceMonths a_o_pieceHighs a_o_pieceAges a_o_pieceNeeds a_o_dragCells a_o_dragEighths o_pieceCount o_dragCount o_settings o_fars) s.heap.size = A at hD hZ ⊢
  have hA : ∀ q : Nat, s.heap.size ≤ q → A q := fun q h => by rw [← hAe]; exact Or.inr h
  clear hAe hD0
  have hS : va_S A s.heap s.heap [] := va_S.rf
  have hl := lv_entry ([.ref h_o]) (n := 5) (Nat.le_of_ble_eq_true rfl)
  rw [lg_entry_eq]
  generalize (lg_sl ([.ref h_o]) ++ List.replicate (5 - (lg_sl ([.ref h_o])).length) Slot.unset).toArray = ls at hl ⊢
  have hl : lv_has ls 5 [(0, .ref h_o)] := hl
  refine kW (fun Q hQ => ?_)
  have hq0 := hts (.fieldLink RX4 30 "SevenRings$Told" "fars" "[I") (by decide +kernel)
  have hi4 : ∀ w ∈ u_ws RX4 TX4 16, w ∈ wsX4_look := by decide +kernel
  have hq2 := hts (.fieldLink RX4 9 "SevenRings$Told" "settings" "[I") (by decide +kernel)
  have hw := hf
  have w9 : ∀ (n : Nat), ∀ (v1 : Int32) (v2 : Int32) (o_fars : Nat → Int32) (H : Heap) (locs : List Loc), va_P (dC, dI) vwCl (W_X4_look cyI cyJ cyO h_o a_o_settings a_o_howFar a_o_tones a_o_currents a_o_warmths a_o_depths a_o_fars a_o_pieceCells a_o_pieceMonths a_o_pieceHighs a_o_pieceAges a_o_pieceNeeds a_o_dragCells a_o_dragEighths o_pieceCount o_dragCount o_settings o_fars) H → va_D A (W_X4_look cyI cyJ cyO h_o a_o_settings a_o_howFar a_o_tones a_o_currents a_o_warmths a_o_depths a_o_fars a_o_pieceCells a_o_pieceMonths a_o_pieceHighs a_o_pieceAges a_o_pieceNeeds a_o_dragCells a_o_dragEighths o_pieceCount o_dragCount o_settings o_fars) → va_S A s.heap H locs → ∀ (ls : Array Slot), lv_has ls 5 [(0, .ref h_o), (1, .int v1), (2, .int v2)] → okP (f_X4_look_L9 n v1 v2 o_settings o_fars) post → W p l e (headSpec wsX4_look rm_X4_look).room s m ([.ref h_o] : List Value).toArray below meth c H locs 0 0 Q (F0 m 9 ls []) := by
    intro n
    induction n with
    | zero =>
      intro v1 v2 o_fars H locs hP hD hS ls hl hw
      exact (ok0 hw).elim
    | succ n9 ih9 =>
      intro v1 v2 o_fars H locs hP hD hS ls hl hw
      replace hw : okP (f_X4_look_L9b (f_X4_look_L9 n9) v1 v2 o_settings o_fars) post := hw
      unfold f_X4_look_L9b at hw
      refine lv_iload_n hx hb dX4_look_9 rfl (lv_at hl 2 rfl) ?_
      refine lv_bipush (v := 100) hx hb dX4_look_10 (by decide) ?_
      refine lv_icmp_ge (tgt := 62) hx hb dX4_look_12 (by decide) (fun c_1 => ?_) (fun c_1 => ?_)
      · replace hw := okT hw c_1
        clear c_1
        rw [hQ]
        exact W.vret hx hb hr (fun t ht hW => ⟨⟨o_fars, rfl, okS hw, by rw [ht]; exact hP, va_K.moved hW.alike hK, hD⟩, hS.F ht⟩) hS.2.2 dX4_look_62
      · replace hw := okF hw c_1
        clear c_1
        refine lv_iload_n hx hb dX4_look_15 rfl (lv_at hl 2 rfl) ?_
        refine lv_bipush (v := 10) hx hb dX4_look_16 (by decide) ?_
        refine lv_idiv hx hb dX4_look_18 (by decide) ?_
        refine lv_iload_n hx hb dX4_look_19 rfl (lv_at hl 1 rfl) ?_
        refine lv_bipush (v := 10) hx hb dX4_look_20 (by decide) ?_
        refine lv_idiv hx hb dX4_look_22 (by decide) ?_
        refine lv_isub hx hb dX4_look_23 ?_
        refine lv_topi (fun x_2 ex_2 => ?_)
        replace hw := okN ex_2 hw
        clear ex_2
        refine lv_istore_n (lv' := [(3, .int x_2), (0, .ref h_o), (1, .int v1), (2, .int v2)]) hx hb dX4_look_24 rfl hl (by decide) rfl (fun ls hl => ?_)
        refine lv_iload_n hx hb dX4_look_25 rfl (lv_at hl 3 rfl) ?_
        refine lv_bipush (v := 10) hx hb dX4_look_26 (by decide) ?_
        refine lv_irem hx hb dX4_look_28 (by decide) ?_
        refine lv_iload_n hx hb dX4_look_29 rfl (lv_at hl 2 rfl) ?_
        refine lv_bipush (v := 10) hx hb dX4_look_30 (by decide) ?_
        refine lv_irem hx hb dX4_look_32 (by decide) ?_
        refine lv_isub hx hb dX4_look_33 ?_
        refine lv_topi (fun x_3 ex_3 => ?_)
        replace hw := okN ex_3 hw
        clear ex_3
        refine lv_istore (lv' := [(4, .int x_3), (3, .int x_2), (0, .ref h_o), (1, .int v1), (2, .int v2)]) hx hb dX4_look_34 hl (by decide) rfl (fun ls hl => ?_)
        refine lv_aload_n hx hb dX4_look_36 rfl (lv_at hl 2 rfl) ?_
        refine va_get (D := (dC, dI)) (ci := 4) (v := .ref a_o_fars) (C := RX4) (T := TX4) (N := 16) hx hb hts hi4 hown hK hP 0 rfl rfl 6 (by decide) hq0 (fun _ h9 => h9) rfl dX4_look_37 ?_
        refine lv_iload_n hx hb dX4_look_40 rfl (lv_at hl 4 rfl) ?_
        refine lv_iconst (v := 4) hx hb dX4_look_41 (by decide) ?_
        refine lv_iload_n hx hb dX4_look_42 rfl (lv_at hl 1 rfl) ?_
        refine lv_iload_n hx hb dX4_look_43 rfl (lv_at hl 1 rfl) ?_
        refine lv_imul hx hb dX4_look_44 ?_
        refine lv_iload hx hb dX4_look_45 (lv_at hl 0 rfl) ?_
        refine lv_iload hx hb dX4_look_47 (lv_at hl 0 rfl) ?_
        refine lv_imul hx hb dX4_look_49 ?_
        refine lv_iadd hx hb dX4_look_50 ?_
        refine lv_imul hx hb dX4_look_51 ?_
        have hFc := va_free (wc := []) hD hS hA [] rfl
        refine kp_i (va_runS (As := [.int (4 * ((x_2 * x_2) + (x_3 * x_3)))]) (rest := [.int v2, .ref a_o_fars]) ⟨hx, hb, hml, hown, hts⟩ (c_X4_wholeRoot l dC dI cyI cyJ cyO H.size (4 * ((x_2 * x_2) + (x_3 * x_3))) _ (okb1 hw)) (va_cwS 1 hts gX4_look_X4_wholeRoot rfl rfl rfl (by decide +kernel) ⟨Nat.le_of_ble_eq_true rfl, Nat.le_of_ble_eq_true rfl⟩) (kpre zN_ok hK va_P0 va_D0 trivial hS hFc) rfl rfl hl.1 rfl (lv_room (Nat.le_of_ble_eq_true rfl)) dX4_look_52 ⟨Nat.le_of_ble_eq_true rfl, Nat.le_of_ble_eq_true rfl⟩) hP hD hS hFc (fun r_4 H locs hw hP hS => ?_)
        dsimp only at hw
        clear hFc
        obtain ⟨h_5, hw⟩ := okC hw
        refine va_iast (i := v2) (x := r_4) hx hb hK hP hD hS 2 0 rfl rfl h_5 dX4_look_55 (fun H locs hP hD hS => ?_)
        have hP : va_P (dC, dI) vwCl (W_X4_look cyI cyJ cyO h_o a_o_settings a_o_howFar a_o_tones a_o_currents a_o_warmths a_o_depths a_o_fars a_o_pieceCells a_o_pieceMonths a_o_pieceHighs a_o_pieceAges a_o_pieceNeeds a_o_dragCells a_o_dragEighths o_pieceCount o_dragCount o_settings (upd o_fars v2.toNatClampNeg r_4)) H := hP
        have hD : va_D A (W_X4_look cyI cyJ cyO h_o a_o_settings a_o_howFar a_o_tones a_o_currents a_o_warmths a_o_depths a_o_fars a_o_pieceCells a_o_pieceMonths a_o_pieceHighs a_o_pieceAges a_o_pieceNeeds a_o_dragCells a_o_dragEighths o_pieceCount o_dragCount o_settings (upd o_fars v2.toNatClampNeg r_4)) := hD
        obtain ⟨x_6, ex_6⟩ : ∃ y : Int32, y = v2 + 1 := ⟨_, rfl⟩
        replace hw := okN ex_6 hw
        refine lv_iinc (v := x_6) (lv' := [(2, .int x_6), (4, .int x_3), (3, .int x_2), (0, .ref h_o), (1, .int v1)]) hx hb dX4_look_56 hl (k := 4) rfl (by rw [ex_6]; rfl) (by decide) rfl (fun ls hl => ?_)
        clear ex_6
        refine lv_goto (tgt := 9) hx hb dX4_look_59 (by decide) ?_
        exact ih9 v1 x_6 (upd o_fars v2.toNatClampNeg r_4) _ _ hP hD hS _ (lv_sub hl [3, 4, 0] rfl) hw
  unfold f_X4_look at hw
  have hP : va_P (dC, dI) vwCl (W_X4_look cyI cyJ cyO h_o a_o_settings a_o_howFar a_o_tones a_o_currents a_o_warmths a_o_depths a_o_fars a_o_pieceCells a_o_pieceMonths a_o_pieceHighs a_o_pieceAges a_o_pieceNeeds a_o_dragCells a_o_dragEighths o_pieceCount o_dragCount o_settings o_fars) s.heap := hP
  obtain ⟨H, hH⟩ : ∃ H, H = s.heap := ⟨_, rfl⟩
  obtain ⟨locs, hlo⟩ : ∃ x : List Loc, x = [] := ⟨_, rfl⟩
  have hP : va_P (dC, dI) vwCl (W_X4_look cyI cyJ cyO h_o a_o_settings a_o_howFar a_o_tones a_o_currents a_o_warmths a_o_depths a_o_fars a_o_pieceCells a_o_pieceMonths a_o_pieceHighs a_o_pieceAges a_o_pieceNeeds a_o_dragCells a_o_dragEighths o_pieceCount o_dragCount o_settings o_fars) H := by rw [hH]; exact hP
  have hS : va_S A s.heap H locs := by rw [hH, hlo]; exact hS
  refine kH hH hlo ?_
  clear hH hlo
  refine lv_aload_n hx hb dX4_look_0 rfl (lv_at hl 0 rfl) ?_
  refine va_get (D := (dC, dI)) (ci := 4) (v := .ref a_o_settings) (C := RX4) (T := TX4) (N := 16) hx hb hts hi4 hown hK hP 0 rfl rfl 0 (by decide) hq2 (fun _ h9 => h9) rfl dX4_look_1 ?_
  refine lv_iconst (v := 0) hx hb dX4_look_4 (by decide) ?_
  refine va_iald (i := 0) hx hb hK hP 1 0 rfl rfl (show ¬ _ by decide) dX4_look_5 ?_
  refine lv_topi (fun x_7 ex_7 => ?_)
  replace hw := okN ex_7 hw
  clear ex_7
  refine lv_istore_n (lv' := [(1, .int x_7), (0, .ref h_o)]) hx hb dX4_look_6 rfl hl (by decide) rfl (fun ls hl => ?_)
  refine lv_iconst (v := 0) hx hb dX4_look_7 (by decide) ?_
  refine lv_istore_n (lv' := [(2, .int 0), (1, .int x_7), (0, .ref h_o)]) hx hb dX4_look_8 rfl hl (by decide) rfl (fun ls hl => ?_)
  exact w9 FU x_7 0 o_fars _ _ hP hD hS _ (lv_sub hl [2, 1, 0] rfl) hw
/-! ===== X1_inSeason ===== -/
abbrev W_X1_inSeason (cyI cyJ cyO : ClassId) : va_W := []
def f_X1_inSeason (x1 : Int32) (x2 : Int32) : Option (Int32) :=
  some ((100 * (x1 - x1 / 2 * 2)) + x2)
abbrev rm_X1_inSeason : Room := { frames := 0, cells := 0, slots := 0, locals := 0 }
set_option maxRecDepth 100000 in
set_option maxHeartbeats 4000000 in
theorem c_X1_inSeason (l : Launch) (dC : Nat → ClassId) (dI : Nat → Nat → Nat) (cyI cyJ cyO : ClassId) (sz : Nat) (x1 : Int32) (x2 : Int32) (post : Int32 → Prop) (hf : okP (f_X1_inSeason x1 x2) post) : Ci l (dC, dI) (tyL cyI cyJ cyO) yX1_inSeason wsX1_inSeason rm_X1_inSeason [.int x1, .int x2] sz (W_X1_inSeason cyI cyJ cyO) zN (fun r (_ : Unit) => post r) (fun _ => (W_X1_inSeason cyI cyJ cyO)) := by
  refine Met.ofW (cc := cX1_inSeason) (maxL := 2) (ret := (some .int)) (by decide) rfl ?_
  intro p e s m args below meth c s₁ B hml hv
  obtain ⟨rfl, hsz, hP, hK, hD0, hZ⟩ := hv
  have hx := B.exec
  have hb := B.bytes
  have hr := B.returns
  have hts := atoms_spec (ws := wsX1_inSeason) B.pre
  have hown : s.vm.findClass RX1 = some m.cls := findClass_of_methodNamed B.named
  have hlocks := B.notSynchronized
  subst hsz
  have hD := hD0.self (sz := s.heap.size)
  generalize hAe : va_A (W_X1_inSeason cyI cyJ cyO) s.heap.size = A at hD hZ ⊢
  have hA : ∀ q : Nat, s.heap.size ≤ q → A q := fun q h => by rw [← hAe]; exact Or.inr h
  clear hAe hD0
  have hS : va_S A s.heap s.heap [] := va_S.rf
  have hl := lv_entry ([.int x1, .int x2]) (n := 2) (Nat.le_of_ble_eq_true rfl)
  rw [lg_entry_eq]
  generalize (lg_sl ([.int x1, .int x2]) ++ List.replicate (2 - (lg_sl ([.int x1, .int x2])).length) Slot.unset).toArray = ls at hl ⊢
  have hl : lv_has ls 2 [(0, .int x1), (1, .int x2)] := hl
  refine kW (fun Q hQ => ?_)
  have hw := hf
  unfold f_X1_inSeason at hw
  have hP : va_P (dC, dI) vwCl (W_X1_inSeason cyI cyJ cyO) s.heap := hP
  obtain ⟨H, hH⟩ : ∃ H, H = s.heap := ⟨_, rfl⟩
  obtain ⟨locs, hlo⟩ : ∃ x : List Loc, x = [] := ⟨_, rfl⟩
  have hP : va_P (dC, dI) vwCl (W_X1_inSeason cyI cyJ cyO) H := by rw [hH]; exact hP
  have hS : va_S A s.heap H locs := by rw [hH, hlo]; exact hS
  refine kH hH hlo ?_
  clear hH hlo
  refine lv_bipush (v := 100) hx hb dX1_inSeason_0 (by decide) ?_
  refine lv_iload_n hx hb dX1_inSeason_2 rfl (lv_at hl 0 rfl) ?_
  refine lv_iconst (v := 2) hx hb dX1_inSeason_3 (by decide) ?_
  refine lv_irem hx hb dX1_inSeason_4 (by decide) ?_
  refine lv_imul hx hb dX1_inSeason_5 ?_
  refine lv_iload_n hx hb dX1_inSeason_6 rfl (lv_at hl 1 rfl) ?_
  refine lv_iadd hx hb dX1_inSeason_7 ?_
  rw [hQ]
  exact W.iret (v := (100 * (x1 - x1 / 2 * 2)) + x2) hx hb hr (fun t ht hW => ⟨⟨(100 * (x1 - x1 / 2 * 2)) + x2, (), rfl, okS hw, by rw [ht]; exact hP, va_K.moved hW.alike hK, hD⟩, hS.F ht⟩) hS.2.2 dX1_inSeason_8
/-! ===== X1_monthOn ===== -/
abbrev W_X1_monthOn (cyI cyJ cyO : ClassId) (h_o h_told a_o_known a_told_settings a_told_howFar a_told_tones a_told_currents a_told_warmths a_told_depths a_told_fars a_told_pieceCells a_told_pieceMonths a_told_pieceHighs a_told_pieceAges a_told_pieceNeeds a_told_dragCells a_told_dragEighths : Nat) (told_pieceCount : Int32) (told_dragCount : Int32) (told_settings : Nat → Int32) (told_currents : Nat → Int32) : va_W := [(h_o, .inr (1, [.ref h_told, .ref a_o_known])), (h_told, .inr (4, [.ref a_told_settings, .ref a_told_howFar, .ref a_told_tones, .ref a_told_currents, .ref a_told_warmths, .ref a_told_depths, .ref a_told_fars, .ref a_told_pieceCells, .ref a_told_pieceMonths, .ref a_told_pieceHighs, .ref a_told_pieceAges, .ref a_told_pieceNeeds, .ref a_told_dragCells, .ref a_told_dragEighths, .int told_pieceCount, .int told_dragCount])), (a_told_settings, .inl (cyI, 8, .inl told_settings)), (a_told_currents, .inl (cyI, 200, .inl told_currents))]
def f_X1_monthOn_B59 (v5 : Int32) (y0 : Int32) (told_settings : Nat → Int32) (told_currents : Nat → Int32) : Option (Int32) :=
  if y0 = (-1) then
    some v5
  else
    some y0
def f_X1_monthOn_B32 (v3 : Int32) (y0 : Int32) (told_settings : Nat → Int32) (told_currents : Nat → Int32) : Option (Int32) :=
  if v3 = 1 then
    bd1 (f_X6_ahead y0 (told_settings 7) 1) fun r_1 =>
    f_X1_monthOn_B59 y0 r_1 told_settings told_currents
  else
    f_X1_monthOn_B59 y0 (-1) told_settings told_currents
def f_X1_monthOn (x1 : Int32) (x2 : Int32) (x3 : Int32) (told_settings : Nat → Int32) (told_currents : Nat → Int32) : Option (Int32) :=
  bd1 (f_X1_inSeason x2 x1) fun r_2 =>
  chk (¬ (r_2 < 0 ∨ 200 ≤ r_2.toNatClampNeg)) <|
  bd1 (f_X6_ahead x1 (told_currents r_2.toNatClampNeg) 1) fun r_3 =>
  if r_3 = (-1) then
    f_X1_monthOn_B32 x3 x1 told_settings told_currents
  else
    f_X1_monthOn_B32 x3 r_3 told_settings told_currents
abbrev rm_X1_monthOn : Room := { frames := 1, cells := 0, slots := 0, locals := 25 }
set_option maxRecDepth 100000 in
set_option maxHeartbeats 4000000 in
theorem c_X1_monthOn (l : Launch) (dC : Nat → ClassId) (dI : Nat → Nat → Nat) (cyI cyJ cyO : ClassId) (sz : Nat) (tD tR tL tM : Nat) (h_o h_told a_o_known a_told_settings a_told_howFar a_told_tones a_told_currents a_told_warmths a_told_depths a_told_fars a_told_pieceCells a_told_pieceMonths a_told_pieceHighs a_told_pieceAges a_told_pieceNeeds a_told_dragCells a_told_dragEighths : Nat) (told_pieceCount : Int32) (told_dragCount : Int32) (told_settings : Nat → Int32) (told_currents : Nat → Int32) (x1 : Int32) (x2 : Int32) (x3 : Int32) (post : Int32 → Prop) (hf : okP (f_X1_monthOn x1 x2 x3 told_settings told_currents) post) : Ci l (dC, dI) (tyL cyI cyJ cyO) yX1_monthOn wsX1_monthOn rm_X1_monthOn [.ref h_o, .int x1, .int x2, .int x3] sz (W_X1_monthOn cyI cyJ cyO h_o h_told a_o_known a_told_settings a_told_howFar a_told_tones a_told_currents a_told_warmths a_told_depths a_told_fars a_told_pieceCells a_told_pieceMonths a_told_pieceHighs a_told_pieceAges a_told_pieceNeeds a_told_dragCells a_told_dragEighths told_pieceCount told_dragCount told_settings told_currents) (zX tD tR tL tM) (fun r (_ : Unit) => post r) (fun _ => (W_X1_monthOn cyI cyJ cyO h_o h_told a_o_known a_told_settings a_told_howFar a_told_tones a_told_currents a_told_warmths a_told_depths a_told_fars a_told_pieceCells a_told_pieceMonths a_told_pieceHighs a_told_pieceAges a_told_pieceNeeds a_told_dragCells a_told_dragEighths told_pieceCount told_dragCount told_settings told_currents)) := by
  refine Met.ofW (cc := cX1_monthOn) (maxL := 7) (ret := (some .int)) (by decide) rfl ?_
  intro p e s m args below meth c s₁ B hml hv
  obtain ⟨rfl, hsz, hP, hK, hD0, hZ⟩ := hv
  have hx := B.exec
  have hb := B.bytes
  have hr := B.returns
  have hts := atoms_spec (ws := wsX1_monthOn) B.pre
  have hown : s.vm.findClass RX1 = some m.cls := findClass_of_methodNamed B.named
  have hlocks := B.notSynchronized
  subst hsz
  have hD := hD0.self (sz := s.heap.size)
  generalize hAe : va_A (W_X1_monthOn cyI cyJ cyO h_o h_told a_o_known a_told_settings a_told_howFar a_told_tones a_told_currents a_told_warmths a_told_depths a_told_fars a_told_pieceCells a_told_pieceMonths a_told_pieceHighs a_told_pieceAges a_told_pieceNeeds a_told_dragCells a_told_dragEighths told_pieceCount told_dragCount told_settings told_currents) s.heap.size = A at hD hZ ⊢
  have hA : ∀ q : Nat, s.heap.size ≤ q → A q := fun q h => by rw [← hAe]; exact Or.inr h
  clear hAe hD0
  have hS : va_S A s.heap s.heap [] := va_S.rf
  have hl := lv_entry ([.ref h_o, .int x1, .int x2, .int x3]) (n := 7) (Nat.le_of_ble_eq_true rfl)
  rw [lg_entry_eq]
  generalize (lg_sl ([.ref h_o, .int x1, .int x2, .int x3]) ++ List.replicate (7 - (lg_sl ([.ref h_o, .int x1, .int x2, .int x3])).length) Slot.unset).toArray = ls at hl ⊢
  have hl : lv_has ls 7 [(0, .ref h_o), (1, .int x1), (2, .int x2), (3, .int x3)] := hl
  refine kW (fun Q hQ => ?_)
  have hq0 := hts (.fieldLink RX1 15 "SevenRings$Sea" "told" "LSevenRings$Told;") (by decide +kernel)
  have hi1 : ∀ w ∈ u_ws RX1 TX1 2, w ∈ wsX1_monthOn := by decide +kernel
  have hq2 := hts (.fieldLink RX1 63 "SevenRings$Told" "settings" "[I") (by decide +kernel)
  have hi4 : ∀ w ∈ u_ws RX4 TX4 16, w ∈ wsX1_monthOn := by decide +kernel
  have hq4 := hts (.initialized RX6) (by decide +kernel)
  have hq5 := hts (.static yX6_ahead) (by decide +kernel)
  have hq6 := hts (.fieldLink RX1 57 "SevenRings$Told" "currents" "[I") (by decide +kernel)
  have hw := hf
  have w59 : ∀ (v5 : Int32) (y0 : Int32) (H : Heap) (locs : List Loc), va_P (dC, dI) vwCl (W_X1_monthOn cyI cyJ cyO h_o h_told a_o_known a_told_settings a_told_howFar a_told_tones a_told_currents a_told_warmths a_told_depths a_told_fars a_told_pieceCells a_told_pieceMonths a_told_pieceHighs a_told_pieceAges a_told_pieceNeeds a_told_dragCells a_told_dragEighths told_pieceCount told_dragCount told_settings told_currents) H → va_D A (W_X1_monthOn cyI cyJ cyO h_o h_told a_o_known a_told_settings a_told_howFar a_told_tones a_told_currents a_told_warmths a_told_depths a_told_fars a_told_pieceCells a_told_pieceMonths a_told_pieceHighs a_told_pieceAges a_told_pieceNeeds a_told_dragCells a_told_dragEighths told_pieceCount told_dragCount told_settings told_currents) → va_S A s.heap H locs → ∀ (ls : Array Slot), lv_has ls 7 [(5, .int v5)] → okP (f_X1_monthOn_B59 v5 y0 told_settings told_currents) post → W p l e (headSpec wsX1_monthOn rm_X1_monthOn).room s m ([.ref h_o, .int x1, .int x2, .int x3] : List Value).toArray below meth c H locs 0 0 Q (F0 m 59 ls [.int y0]) := by
    intro v5 y0 H locs hP hD hS ls hl hw
    unfold f_X1_monthOn_B59 at hw
    refine lv_istore (lv' := [(6, .int y0), (5, .int v5)]) hx hb dX1_monthOn_59 hl (by decide) rfl (fun ls hl => ?_)
    refine lv_iload hx hb dX1_monthOn_61 (lv_at hl 0 rfl) ?_
    refine lv_iconst (v := (-1)) hx hb dX1_monthOn_63 (by decide) ?_
    refine lv_icmp_ne (tgt := 72) hx hb dX1_monthOn_64 (by decide) (fun c_1 => ?_) (fun c_1 => ?_)
    · replace hw := okF hw c_1
      clear c_1
      refine lv_iload hx hb dX1_monthOn_72 (lv_at hl 0 rfl) ?_
      rw [hQ]
      exact W.iret (v := y0) hx hb hr (fun t ht hW => ⟨⟨y0, (), rfl, okS hw, by rw [ht]; exact hP, va_K.moved hW.alike hK, hD⟩, hS.F ht⟩) hS.2.2 dX1_monthOn_74
    · replace hw := okT hw c_1
      clear c_1
      refine lv_iload hx hb dX1_monthOn_67 (lv_at hl 1 rfl) ?_
      refine lv_goto (tgt := 74) hx hb dX1_monthOn_69 (by decide) ?_
      rw [hQ]
      exact W.iret (v := v5) hx hb hr (fun t ht hW => ⟨⟨v5, (), rfl, okS hw, by rw [ht]; exact hP, va_K.moved hW.alike hK, hD⟩, hS.F ht⟩) hS.2.2 dX1_monthOn_74
  have w32 : ∀ (v3 : Int32) (y0 : Int32) (H : Heap) (locs : List Loc), va_P (dC, dI) vwCl (W_X1_monthOn cyI cyJ cyO h_o h_told a_o_known a_told_settings a_told_howFar a_told_tones a_told_currents a_told_warmths a_told_depths a_told_fars a_told_pieceCells a_told_pieceMonths a_told_pieceHighs a_told_pieceAges a_told_pieceNeeds a_told_dragCells a_told_dragEighths told_pieceCount told_dragCount told_settings told_currents) H → va_D A (W_X1_monthOn cyI cyJ cyO h_o h_told a_o_known a_told_settings a_told_howFar a_told_tones a_told_currents a_told_warmths a_told_depths a_told_fars a_told_pieceCells a_told_pieceMonths a_told_pieceHighs a_told_pieceAges a_told_pieceNeeds a_told_dragCells a_told_dragEighths told_pieceCount told_dragCount told_settings told_currents) → va_S A s.heap H locs → ∀ (ls : Array Slot), lv_has ls 7 [(0, .ref h_o), (3, .int v3)] → okP (f_X1_monthOn_B32 v3 y0 told_settings told_currents) post → W p l e (headSpec wsX1_monthOn rm_X1_monthOn).room s m ([.ref h_o, .int x1, .int x2, .int x3] : List Value).toArray below meth c H locs 0 0 Q (F0 m 32 ls [.int y0]) := by
    intro v3 y0 H locs hP hD hS ls hl hw
    unfold f_X1_monthOn_B32 at hw
    refine lv_istore (lv' := [(5, .int y0), (0, .ref h_o), (3, .int v3)]) hx hb dX1_monthOn_32 hl (by decide) rfl (fun ls hl => ?_)
    refine lv_iload_n hx hb dX1_monthOn_34 rfl (lv_at hl 2 rfl) ?_
    refine lv_iconst (v := 1) hx hb dX1_monthOn_35 (by decide) ?_
    refine lv_icmp_ne (tgt := 58) hx hb dX1_monthOn_36 (by decide) (fun c_2 => ?_) (fun c_2 => ?_)
    · replace hw := okF hw c_2
      clear c_2
      refine lv_iconst (v := (-1)) hx hb dX1_monthOn_58 (by decide) ?_
      exact w59 y0 (-1) _ _ hP hD hS _ (lv_sub hl [0] rfl) hw
    · replace hw := okT hw c_2
      clear c_2
      refine lv_iload hx hb dX1_monthOn_39 (lv_at hl 0 rfl) ?_
      refine lv_aload_n hx hb dX1_monthOn_41 rfl (lv_at hl 1 rfl) ?_
      refine va_get (D := (dC, dI)) (ci := 1) (v := .ref h_told) (C := RX1) (T := TX1) (N := 2) hx hb hts hi1 hown hK hP 0 rfl rfl 0 (by decide) hq0 (fun _ h9 => h9) rfl dX1_monthOn_42 ?_
      refine va_get (D := (dC, dI)) (ci := 4) (v := .ref a_told_settings) (C := RX4) (T := TX4) (N := 16) hx hb hts hi4 hown hK hP 1 rfl rfl 0 (by decide) hq2 (fun _ h9 => h9) rfl dX1_monthOn_45 ?_
      refine lv_bipush (v := 7) hx hb dX1_monthOn_48 (by decide) ?_
      refine va_iald (i := 7) hx hb hK hP 2 0 rfl rfl (show ¬ _ by decide) dX1_monthOn_50 ?_
      refine lv_iconst (v := 1) hx hb dX1_monthOn_51 (by decide) ?_
      have hFc := va_free (wc := []) hD hS hA [] rfl
      refine kp_i (va_runSN (As := [.int y0, .int (told_settings 7), .int 1]) (rest := []) ⟨hx, hb, hml, hown, hts⟩ (c_X6_ahead l dC dI cyI cyJ cyO H.size tD tR tL tM y0 (told_settings 7) 1 _ (okb1 hw)) ⟨va_cnB 3 hts gX1_monthOn_X6_ahead_n60 rfl rfl rfl hZ.2.2.2.2.2.2.2.2.1 hq4 (by decide +kernel) ⟨Nat.le_of_ble_eq_true rfl, Nat.le_of_ble_eq_true rfl⟩, hq5, trivial⟩ (kpre zX_ok hK va_P0 va_D0 hZ hS hFc) rfl rfl hl.1 rfl (lv_room (Nat.le_of_ble_eq_true rfl)) dX1_monthOn_52 ⟨Nat.le_of_ble_eq_true rfl, Nat.le_of_ble_eq_true rfl⟩) hP hD hS hFc (fun r_3 H locs hw hP hS => ?_)
      dsimp only at hw
      clear hFc
      refine lv_goto (tgt := 59) hx hb dX1_monthOn_55 (by decide) ?_
      exact w59 y0 r_3 _ _ hP hD hS _ (lv_sub hl [0] rfl) hw
  unfold f_X1_monthOn at hw
  have hP : va_P (dC, dI) vwCl (W_X1_monthOn cyI cyJ cyO h_o h_told a_o_known a_told_settings a_told_howFar a_told_tones a_told_currents a_told_warmths a_told_depths a_told_fars a_told_pieceCells a_told_pieceMonths a_told_pieceHighs a_told_pieceAges a_told_pieceNeeds a_told_dragCells a_told_dragEighths told_pieceCount told_dragCount told_settings told_currents) s.heap := hP
  obtain ⟨H, hH⟩ : ∃ H, H = s.heap := ⟨_, rfl⟩
  obtain ⟨locs, hlo⟩ : ∃ x : List Loc, x = [] := ⟨_, rfl⟩
  have hP : va_P (dC, dI) vwCl (W_X1_monthOn cyI cyJ cyO h_o h_told a_o_known a_told_settings a_told_howFar a_told_tones a_told_currents a_told_warmths a_told_depths a_told_fars a_told_pieceCells a_told_pieceMonths a_told_pieceHighs a_told_pieceAges a_told_pieceNeeds a_told_dragCells a_told_dragEighths told_pieceCount told_dragCount told_settings told_currents) H := by rw [hH]; exact hP
  have hS : va_S A s.heap H locs := by rw [hH, hlo]; exact hS
  refine kH hH hlo ?_
  clear hH hlo
  refine lv_iload_n hx hb dX1_monthOn_0 rfl (lv_at hl 1 rfl) ?_
  refine lv_aload_n hx hb dX1_monthOn_1 rfl (lv_at hl 0 rfl) ?_
  refine va_get (D := (dC, dI)) (ci := 1) (v := .ref h_told) (C := RX1) (T := TX1) (N := 2) hx hb hts hi1 hown hK hP 0 rfl rfl 0 (by decide) hq0 (fun _ h9 => h9) rfl dX1_monthOn_2 ?_
  refine va_get (D := (dC, dI)) (ci := 4) (v := .ref a_told_currents) (C := RX4) (T := TX4) (N := 16) hx hb hts hi4 hown hK hP 1 rfl rfl 3 (by decide) hq6 (fun _ h9 => h9) rfl dX1_monthOn_5 ?_
  refine lv_iload_n hx hb dX1_monthOn_8 rfl (lv_at hl 2 rfl) ?_
  refine lv_iload_n hx hb dX1_monthOn_9 rfl (lv_at hl 1 rfl) ?_
  have hFc := va_free (wc := []) hD hS hA [] rfl
  refine kp_i (va_runS (As := [.int x2, .int x1]) (rest := [.ref a_told_currents, .int x1]) ⟨hx, hb, hml, hown, hts⟩ (c_X1_inSeason l dC dI cyI cyJ cyO H.size x2 x1 _ (okb1 hw)) (va_cwS 2 hts gX1_monthOn_X1_inSeason rfl rfl rfl (by decide +kernel) ⟨Nat.le_of_ble_eq_true rfl, Nat.le_of_ble_eq_true rfl⟩) (kpre zN_ok hK va_P0 va_D0 trivial hS hFc) rfl rfl hl.1 rfl (lv_room (Nat.le_of_ble_eq_true rfl)) dX1_monthOn_10 ⟨Nat.le_of_ble_eq_true rfl, Nat.le_of_ble_eq_true rfl⟩) hP hD hS hFc (fun r_4 H locs hw hP hS => ?_)
  dsimp only at hw
  clear hFc
  obtain ⟨h_5, hw⟩ := okC hw
  refine va_iald (i := r_4) hx hb hK hP 3 0 rfl rfl h_5 dX1_monthOn_13 ?_
  refine lv_iconst (v := 1) hx hb dX1_monthOn_14 (by decide) ?_
  have hFc := va_free (wc := []) hD hS hA [] rfl
  refine kp_i (va_runSN (As := [.int x1, .int (told_currents r_4.toNatClampNeg), .int 1]) (rest := []) ⟨hx, hb, hml, hown, hts⟩ (c_X6_ahead l dC dI cyI cyJ cyO H.size tD tR tL tM x1 (told_currents r_4.toNatClampNeg) 1 _ (okb1 hw)) ⟨va_cnB 3 hts gX1_monthOn_X6_ahead_n60 rfl rfl rfl hZ.2.2.2.2.2.2.2.2.1 hq4 (by decide +kernel) ⟨Nat.le_of_ble_eq_true rfl, Nat.le_of_ble_eq_true rfl⟩, hq5, trivial⟩ (kpre zX_ok hK va_P0 va_D0 hZ hS hFc) rfl rfl hl.1 rfl (lv_room (Nat.le_of_ble_eq_true rfl)) dX1_monthOn_15 ⟨Nat.le_of_ble_eq_true rfl, Nat.le_of_ble_eq_true rfl⟩) hP hD hS hFc (fun r_6 H locs hw hP hS => ?_)
  dsimp only at hw
  clear hFc
  refine lv_istore (lv' := [(4, .int r_6), (0, .ref h_o), (1, .int x1), (2, .int x2), (3, .int x3)]) hx hb dX1_monthOn_18 hl (by decide) rfl (fun ls hl => ?_)
  refine lv_iload hx hb dX1_monthOn_20 (lv_at hl 0 rfl) ?_
  refine lv_iconst (v := (-1)) hx hb dX1_monthOn_22 (by decide) ?_
  refine lv_icmp_ne (tgt := 30) hx hb dX1_monthOn_23 (by decide) (fun c_7 => ?_) (fun c_7 => ?_)
  · replace hw := okF hw c_7
    clear c_7
    refine lv_iload hx hb dX1_monthOn_30 (lv_at hl 0 rfl) ?_
    exact w32 x3 r_6 _ _ hP hD hS _ (lv_sub hl [1, 4] rfl) hw
  · replace hw := okT hw c_7
    clear c_7
    refine lv_iload_n hx hb dX1_monthOn_26 rfl (lv_at hl 2 rfl) ?_
    refine lv_goto (tgt := 32) hx hb dX1_monthOn_27 (by decide) ?_
    exact w32 x3 x1 _ _ hP hD hS _ (lv_sub hl [1, 4] rfl) hw
/-! ===== X3_skipBlanks ===== -/
abbrev W_X3_skipBlanks (cyI cyJ cyO : ClassId) (h_o a_o_bytes a_o_newFar a_o_newTones a_o_newCurrents : Nat) (o_length : Int32) (o_place : Int32) (o_bytes : Nat → Int32) : va_W := [(h_o, .inr (3, [.ref a_o_bytes, .int o_length, .int o_place, .ref a_o_newFar, .ref a_o_newTones, .ref a_o_newCurrents])), (a_o_bytes, .inl (cyI, 60, .inl o_bytes))]
def f_X3_skipBlanks_L0b (k0 : Int32 → Int32 → (Nat → Int32) → Option (Int32)) (o_length : Int32) (o_place : Int32) (o_bytes : Nat → Int32) : Option (Int32) :=
  if o_length ≤ o_place then
    some o_place
  else
    chk (¬ (o_place < 0 ∨ 60 ≤ o_place.toNatClampNeg)) <|
    if (o_bytes o_place.toNatClampNeg) = 32 then
      nm (o_place + 1) fun x_1 =>
      k0 o_length x_1 o_bytes
    else
      some o_place
def f_X3_skipBlanks_L0 : Nat → Int32 → Int32 → (Nat → Int32) → Option (Int32)
  | 0 => fun _ _ _ => none
  | n + 1 => f_X3_skipBlanks_L0b (f_X3_skipBlanks_L0 n)
def f_X3_skipBlanks (o_length : Int32) (o_place : Int32) (o_bytes : Nat → Int32) : Option (Int32) :=
  f_X3_skipBlanks_L0 FU o_length o_place o_bytes
abbrev rm_X3_skipBlanks : Room := { frames := 0, cells := 0, slots := 0, locals := 0 }
set_option maxRecDepth 100000 in
set_option maxHeartbeats 4000000 in
theorem c_X3_skipBlanks (l : Launch) (dC : Nat → ClassId) (dI : Nat → Nat → Nat) (cyI cyJ cyO : ClassId) (sz : Nat) (h_o a_o_bytes a_o_newFar a_o_newTones a_o_newCurrents : Nat) (o_length : Int32) (o_place : Int32) (o_bytes : Nat → Int32) (post : Int32 → Prop) (hf : okP (f_X3_skipBlanks o_length o_place o_bytes) post) : Cv l (dC, dI) (tyL cyI cyJ cyO) yX3_skipBlanks wsX3_skipBlanks rm_X3_skipBlanks [.ref h_o] sz (W_X3_skipBlanks cyI cyJ cyO h_o a_o_bytes a_o_newFar a_o_newTones a_o_newCurrents o_length o_place o_bytes) zN (fun u => post u) (fun u => (W_X3_skipBlanks cyI cyJ cyO h_o a_o_bytes a_o_newFar a_o_newTones a_o_newCurrents o_length u o_bytes)) := by
  refine Met.ofW (cc := cX3_skipBlanks) (maxL := 1) (ret := none) (by decide) rfl ?_
  intro p e s m args below meth c s₁ B hml hv
  obtain ⟨rfl, hsz, hP, hK, hD0, hZ⟩ := hv
  have hx := B.exec
  have hb := B.bytes
  have hr := B.returns
  have hts := atoms_spec (ws := wsX3_skipBlanks) B.pre
  have hown : s.vm.findClass RX3 = some m.cls := findClass_of_methodNamed B.named
  have hlocks := B.notSynchronized
  subst hsz
  have hD := hD0.self (sz := s.heap.size)
  generalize hAe : va_A (W_X3_skipBlanks cyI cyJ cyO h_o a_o_bytes a_o_newFar a_o_newTones a_o_newCurrents o_length o_place o_bytes) s.heap.size = A at hD hZ ⊢
  have hA : ∀ q : Nat, s.heap.size ≤ q → A q := fun q h => by rw [← hAe]; exact Or.inr h
  clear hAe hD0
  have hS : va_S A s.heap s.heap [] := va_S.rf
  have hl := lv_entry ([.ref h_o]) (n := 1) (Nat.le_of_ble_eq_true rfl)
  rw [lg_entry_eq]
  generalize (lg_sl ([.ref h_o]) ++ List.replicate (1 - (lg_sl ([.ref h_o])).length) Slot.unset).toArray = ls at hl ⊢
  have hl : lv_has ls 1 [(0, .ref h_o)] := hl
  refine kW (fun Q hQ => ?_)
  have hq0 := hts (.fieldLink RX3 19 "SevenRings$Tape" "place" "I") (by decide +kernel)
  have hi3 : ∀ w ∈ u_ws RX3 TX3 6, w ∈ wsX3_skipBlanks := by decide +kernel
  have hq2 := hts (.fieldLink RX3 15 "SevenRings$Tape" "length" "I") (by decide +kernel)
  have hq3 := hts (.fieldLink RX3 11 "SevenRings$Tape" "bytes" "[I") (by decide +kernel)
  have hw := hf
  have w0 : ∀ (n : Nat), ∀ (o_place : Int32) (H : Heap) (locs : List Loc), va_P (dC, dI) vwCl (W_X3_skipBlanks cyI cyJ cyO h_o a_o_bytes a_o_newFar a_o_newTones a_o_newCurrents o_length o_place o_bytes) H → va_D A (W_X3_skipBlanks cyI cyJ cyO h_o a_o_bytes a_o_newFar a_o_newTones a_o_newCurrents o_length o_place o_bytes) → va_S A s.heap H locs → ∀ (ls : Array Slot), lv_has ls 1 [(0, .ref h_o)] → okP (f_X3_skipBlanks_L0 n o_length o_place o_bytes) post → W p l e (headSpec wsX3_skipBlanks rm_X3_skipBlanks).room s m ([.ref h_o] : List Value).toArray below meth c H locs 0 0 Q (F0 m 0 ls []) := by
    intro n
    induction n with
    | zero =>
      intro o_place H locs hP hD hS ls hl hw
      exact (ok0 hw).elim
    | succ n0 ih0 =>
      intro o_place H locs hP hD hS ls hl hw
      replace hw : okP (f_X3_skipBlanks_L0b (f_X3_skipBlanks_L0 n0) o_length o_place o_bytes) post := hw
      unfold f_X3_skipBlanks_L0b at hw
      refine lv_aload_n hx hb dX3_skipBlanks_0 rfl (lv_at hl 0 rfl) ?_
      refine va_get (D := (dC, dI)) (ci := 3) (v := .int o_place) (C := RX3) (T := TX3) (N := 6) hx hb hts hi3 hown hK hP 0 rfl rfl 2 (by decide) hq0 (fun _ h9 => h9) rfl dX3_skipBlanks_1 ?_
      refine lv_aload_n hx hb dX3_skipBlanks_4 rfl (lv_at hl 0 rfl) ?_
      refine va_get (D := (dC, dI)) (ci := 3) (v := .int o_length) (C := RX3) (T := TX3) (N := 6) hx hb hts hi3 hown hK hP 0 rfl rfl 1 (by decide) hq2 (fun _ h9 => h9) rfl dX3_skipBlanks_5 ?_
      refine lv_icmp_ge (tgt := 38) hx hb dX3_skipBlanks_8 (by decide) (fun c_1 => ?_) (fun c_1 => ?_)
      · replace hw := okT hw c_1
        clear c_1
        rw [hQ]
        exact W.vret hx hb hr (fun t ht hW => ⟨⟨o_place, rfl, okS hw, by rw [ht]; exact hP, va_K.moved hW.alike hK, hD⟩, hS.F ht⟩) hS.2.2 dX3_skipBlanks_38
      · replace hw := okF hw c_1
        clear c_1
        refine lv_aload_n hx hb dX3_skipBlanks_11 rfl (lv_at hl 0 rfl) ?_
        refine va_get (D := (dC, dI)) (ci := 3) (v := .ref a_o_bytes) (C := RX3) (T := TX3) (N := 6) hx hb hts hi3 hown hK hP 0 rfl rfl 0 (by decide) hq3 (fun _ h9 => h9) rfl dX3_skipBlanks_12 ?_
        refine lv_aload_n hx hb dX3_skipBlanks_15 rfl (lv_at hl 0 rfl) ?_
        refine va_get (D := (dC, dI)) (ci := 3) (v := .int o_place) (C := RX3) (T := TX3) (N := 6) hx hb hts hi3 hown hK hP 0 rfl rfl 2 (by decide) hq0 (fun _ h9 => h9) rfl dX3_skipBlanks_16 ?_
        obtain ⟨h_2, hw⟩ := okC hw
        refine va_iald (i := o_place) hx hb hK hP 1 0 rfl rfl h_2 dX3_skipBlanks_19 ?_
        refine lv_bipush (v := 32) hx hb dX3_skipBlanks_20 (by decide) ?_
        refine lv_icmp_ne (tgt := 38) hx hb dX3_skipBlanks_22 (by decide) (fun c_3 => ?_) (fun c_3 => ?_)
        · replace hw := okF hw c_3
          clear c_3
          rw [hQ]
          exact W.vret hx hb hr (fun t ht hW => ⟨⟨o_place, rfl, okS hw, by rw [ht]; exact hP, va_K.moved hW.alike hK, hD⟩, hS.F ht⟩) hS.2.2 dX3_skipBlanks_38
        · replace hw := okT hw c_3
          clear c_3
          refine lv_aload_n hx hb dX3_skipBlanks_25 rfl (lv_at hl 0 rfl) ?_
          refine lv_dup hx hb dX3_skipBlanks_26 rfl ?_
          refine va_get (D := (dC, dI)) (ci := 3) (v := .int o_place) (C := RX3) (T := TX3) (N := 6) hx hb hts hi3 hown hK hP 0 rfl rfl 2 (by decide) hq0 (fun _ h9 => h9) rfl dX3_skipBlanks_27 ?_
          refine lv_iconst (v := 1) hx hb dX3_skipBlanks_30 (by decide) ?_
          refine lv_iadd hx hb dX3_skipBlanks_31 ?_
          refine lv_topi (fun x_4 ex_4 => ?_)
          replace hw := okN ex_4 hw
          clear ex_4
          refine va_put (D := (dC, dI)) (ci := 3) (v := .int x_4) (ty := .int) (C := RX3) (T := TX3) (N := 6) hx hb hts hi3 tyX3 tyX3_ok nmX3 hown hK hP hD hS 0 rfl rfl 2 (by decide) hq0 (fun _ h9 => h9) rfl (by decide +kernel) rfl rfl (Nat.le_of_ble_eq_true rfl) dX3_skipBlanks_32 (fun H locs hP hD hS => ?_)
          have hP : va_P (dC, dI) vwCl (W_X3_skipBlanks cyI cyJ cyO h_o a_o_bytes a_o_newFar a_o_newTones a_o_newCurrents o_length x_4 o_bytes) H := hP
          have hD : va_D A (W_X3_skipBlanks cyI cyJ cyO h_o a_o_bytes a_o_newFar a_o_newTones a_o_newCurrents o_length x_4 o_bytes) := hD
          refine lv_goto (tgt := 0) hx hb dX3_skipBlanks_35 (by decide) ?_
          exact ih0 x_4 _ _ hP hD hS _ (lv_sub hl [0] rfl) hw
  unfold f_X3_skipBlanks at hw
  have hP : va_P (dC, dI) vwCl (W_X3_skipBlanks cyI cyJ cyO h_o a_o_bytes a_o_newFar a_o_newTones a_o_newCurrents o_length o_place o_bytes) s.heap := hP
  obtain ⟨H, hH⟩ : ∃ H, H = s.heap := ⟨_, rfl⟩
  obtain ⟨locs, hlo⟩ : ∃ x : List Loc, x = [] := ⟨_, rfl⟩
  have hP : va_P (dC, dI) vwCl (W_X3_skipBlanks cyI cyJ cyO h_o a_o_bytes a_o_newFar a_o_newTones a_o_newCurrents o_length o_place o_bytes) H := by rw [hH]; exact hP
  have hS : va_S A s.heap H locs := by rw [hH, hlo]; exact hS
  refine kH hH hlo ?_
  clear hH hlo
  exact w0 FU o_place _ _ hP hD hS _ (lv_sub hl [0] rfl) hw
/-! ===== X3_number ===== -/
abbrev W_X3_number (cyI cyJ cyO : ClassId) (h_o a_o_bytes a_o_newFar a_o_newTones a_o_newCurrents : Nat) (o_length : Int32) (o_place : Int32) (o_bytes : Nat → Int32) : va_W := [(h_o, .inr (3, [.ref a_o_bytes, .int o_length, .int o_place, .ref a_o_newFar, .ref a_o_newTones, .ref a_o_newCurrents])), (a_o_bytes, .inl (cyI, 60, .inl o_bytes))]
def f_X3_number_B113 (v3 : Int32) (o_length : Int32) (o_place : Int32) (o_bytes : Nat → Int32) : Option (Int32 × Int32) :=
  some ((-1), v3)
def f_X3_number_B90 (v1 : Int32) (v2 : Int32) (v3 : Int32) (v4 : Int32) (o_length : Int32) (o_place : Int32) (o_bytes : Nat → Int32) : Option (Int32 × Int32) :=
  if o_place ≤ v3 then
    f_X3_number_B113 v3 o_length o_place o_bytes
  else
    if v4 < v1 then
      f_X3_number_B113 v3 o_length o_place o_bytes
    else
      if v2 < v4 then
        f_X3_number_B113 v3 o_length o_place o_bytes
      else
        some (v4, o_place)
def f_X3_number_L12b (k12 : Int32 → Int32 → Int32 → Int32 → Int32 → Int32 → (Nat → Int32) → Option (Int32 × Int32)) (v1 : Int32) (v2 : Int32) (v3 : Int32) (v4 : Int32) (o_length : Int32) (o_place : Int32) (o_bytes : Nat → Int32) : Option (Int32 × Int32) :=
  if o_length ≤ o_place then
    f_X3_number_B90 v1 v2 v3 v4 o_length o_place o_bytes
  else
    chk (¬ (o_place < 0 ∨ 60 ≤ o_place.toNatClampNeg)) <|
    if (o_bytes o_place.toNatClampNeg) < 48 then
      f_X3_number_B90 v1 v2 v3 v4 o_length o_place o_bytes
    else
      chk (¬ (o_place < 0 ∨ 60 ≤ o_place.toNatClampNeg)) <|
      if 57 < (o_bytes o_place.toNatClampNeg) then
        f_X3_number_B90 v1 v2 v3 v4 o_length o_place o_bytes
      else
        chk (¬ (o_place < 0 ∨ 60 ≤ o_place.toNatClampNeg)) <|
        nm (if 1000 < (((10 * v4) + (o_bytes o_place.toNatClampNeg)) - 48) then 1000 else (((10 * v4) + (o_bytes o_place.toNatClampNeg)) - 48)) fun x_1 =>
        nm (o_place + 1) fun x_2 =>
        k12 v1 v2 v3 x_1 o_length x_2 o_bytes
def f_X3_number_L12 : Nat → Int32 → Int32 → Int32 → Int32 → Int32 → Int32 → (Nat → Int32) → Option (Int32 × Int32)
  | 0 => fun _ _ _ _ _ _ _ => none
  | n + 1 => f_X3_number_L12b (f_X3_number_L12 n)
def f_X3_number (x1 : Int32) (x2 : Int32) (o_length : Int32) (o_place : Int32) (o_bytes : Nat → Int32) : Option (Int32 × Int32) :=
  bd1 (f_X3_skipBlanks o_length o_place o_bytes) fun w_3 =>
  f_X3_number_L12 FU x1 x2 w_3 0 o_length w_3 o_bytes
abbrev rm_X3_number : Room := { frames := 1, cells := 0, slots := 0, locals := 21 }
set_option maxRecDepth 100000 in
set_option maxHeartbeats 4000000 in
theorem c_X3_number (l : Launch) (dC : Nat → ClassId) (dI : Nat → Nat → Nat) (cyI cyJ cyO : ClassId) (sz : Nat) (h_o a_o_bytes a_o_newFar a_o_newTones a_o_newCurrents : Nat) (o_length : Int32) (o_place : Int32) (o_bytes : Nat → Int32) (x1 : Int32) (x2 : Int32) (post : (Int32 × Int32) → Prop) (hf : okP (f_X3_number x1 x2 o_length o_place o_bytes) post) : Ci l (dC, dI) (tyL cyI cyJ cyO) yX3_number wsX3_number rm_X3_number [.ref h_o, .int x1, .int x2] sz (W_X3_number cyI cyJ cyO h_o a_o_bytes a_o_newFar a_o_newTones a_o_newCurrents o_length o_place o_bytes) zN (fun r u => post (r, u)) (fun u => (W_X3_number cyI cyJ cyO h_o a_o_bytes a_o_newFar a_o_newTones a_o_newCurrents o_length u o_bytes)) := by
  refine Met.ofW (cc := cX3_number) (maxL := 5) (ret := (some .int)) (by decide) rfl ?_
  intro p e s m args below meth c s₁ B hml hv
  obtain ⟨rfl, hsz, hP, hK, hD0, hZ⟩ := hv
  have hx := B.exec
  have hb := B.bytes
  have hr := B.returns
  have hts := atoms_spec (ws := wsX3_number) B.pre
  have hown : s.vm.findClass RX3 = some m.cls := findClass_of_methodNamed B.named
  have hlocks := B.notSynchronized
  subst hsz
  have hD := hD0.self (sz := s.heap.size)
  generalize hAe : va_A (W_X3_number cyI cyJ cyO h_o a_o_bytes a_o_newFar a_o_newTones a_o_newCurrents o_length o_place o_bytes) s.heap.size = A at hD hZ ⊢
  have hA : ∀ q : Nat, s.heap.size ≤ q → A q := fun q h => by rw [← hAe]; exact Or.inr h
  clear hAe hD0
  have hS : va_S A s.heap s.heap [] := va_S.rf
  have hl := lv_entry ([.ref h_o, .int x1, .int x2]) (n := 5) (Nat.le_of_ble_eq_true rfl)
  rw [lg_entry_eq]
  generalize (lg_sl ([.ref h_o, .int x1, .int x2]) ++ List.replicate (5 - (lg_sl ([.ref h_o, .int x1, .int x2])).length) Slot.unset).toArray = ls at hl ⊢
  have hl : lv_has ls 5 [(0, .ref h_o), (1, .int x1), (2, .int x2)] := hl
  refine kW (fun Q hQ => ?_)
  have hq0 := hts (.fieldLink RX3 19 "SevenRings$Tape" "place" "I") (by decide +kernel)
  have hi3 : ∀ w ∈ u_ws RX3 TX3 6, w ∈ wsX3_number := by decide +kernel
  have hq2 := hts (.fieldLink RX3 15 "SevenRings$Tape" "length" "I") (by decide +kernel)
  have hq3 := hts (.fieldLink RX3 11 "SevenRings$Tape" "bytes" "[I") (by decide +kernel)
  have hq4 := hts (.methodLink RX3 66 Lib.Math.min.name) (by decide +kernel)
  have hq5 := hts (.static Lib.Math.min.name) (by decide +kernel)
  have hq6 := hts (.initialized "java/lang/Math") (by decide +kernel)
  have hq7 := hts (.code Lib.Math.min.name Lib.Math.min.code 2 (some .int)) (by decide +kernel)
  have hw := hf
  have w113 : ∀ (v3 : Int32) (o_place : Int32) (H : Heap) (locs : List Loc), va_P (dC, dI) vwCl (W_X3_number cyI cyJ cyO h_o a_o_bytes a_o_newFar a_o_newTones a_o_newCurrents o_length o_place o_bytes) H → va_D A (W_X3_number cyI cyJ cyO h_o a_o_bytes a_o_newFar a_o_newTones a_o_newCurrents o_length o_place o_bytes) → va_S A s.heap H locs → ∀ (ls : Array Slot), lv_has ls 5 [(0, .ref h_o), (3, .int v3)] → okP (f_X3_number_B113 v3 o_length o_place o_bytes) post → W p l e (headSpec wsX3_number rm_X3_number).room s m ([.ref h_o, .int x1, .int x2] : List Value).toArray below meth c H locs 0 0 Q (F0 m 113 ls []) := by
    intro v3 o_place H locs hP hD hS ls hl hw
    unfold f_X3_number_B113 at hw
    refine lv_aload_n hx hb dX3_number_113 rfl (lv_at hl 0 rfl) ?_
    refine lv_iload_n hx hb dX3_number_114 rfl (lv_at hl 1 rfl) ?_
    refine va_put (D := (dC, dI)) (ci := 3) (v := .int v3) (ty := .int) (C := RX3) (T := TX3) (N := 6) hx hb hts hi3 tyX3 tyX3_ok nmX3 hown hK hP hD hS 0 rfl rfl 2 (by decide) hq0 (fun _ h9 => h9) rfl (by decide +kernel) rfl rfl (Nat.le_of_ble_eq_true rfl) dX3_number_115 (fun H locs hP hD hS => ?_)
    have hP : va_P (dC, dI) vwCl (W_X3_number cyI cyJ cyO h_o a_o_bytes a_o_newFar a_o_newTones a_o_newCurrents o_length v3 o_bytes) H := hP
    have hD : va_D A (W_X3_number cyI cyJ cyO h_o a_o_bytes a_o_newFar a_o_newTones a_o_newCurrents o_length v3 o_bytes) := hD
    refine lv_iconst (v := (-1)) hx hb dX3_number_118 (by decide) ?_
    rw [hQ]
    exact W.iret (v := (-1)) hx hb hr (fun t ht hW => ⟨⟨(-1), v3, rfl, okS hw, by rw [ht]; exact hP, va_K.moved hW.alike hK, hD⟩, hS.F ht⟩) hS.2.2 dX3_number_119
  have w90 : ∀ (v1 : Int32) (v2 : Int32) (v3 : Int32) (v4 : Int32) (o_place : Int32) (H : Heap) (locs : List Loc), va_P (dC, dI) vwCl (W_X3_number cyI cyJ cyO h_o a_o_bytes a_o_newFar a_o_newTones a_o_newCurrents o_length o_place o_bytes) H → va_D A (W_X3_number cyI cyJ cyO h_o a_o_bytes a_o_newFar a_o_newTones a_o_newCurrents o_length o_place o_bytes) → va_S A s.heap H locs → ∀ (ls : Array Slot), lv_has ls 5 [(0, .ref h_o), (1, .int v1), (2, .int v2), (3, .int v3), (4, .int v4)] → okP (f_X3_number_B90 v1 v2 v3 v4 o_length o_place o_bytes) post → W p l e (headSpec wsX3_number rm_X3_number).room s m ([.ref h_o, .int x1, .int x2] : List Value).toArray below meth c H locs 0 0 Q (F0 m 90 ls []) := by
    intro v1 v2 v3 v4 o_place H locs hP hD hS ls hl hw
    unfold f_X3_number_B90 at hw
    refine lv_aload_n hx hb dX3_number_90 rfl (lv_at hl 0 rfl) ?_
    refine va_get (D := (dC, dI)) (ci := 3) (v := .int o_place) (C := RX3) (T := TX3) (N := 6) hx hb hts hi3 hown hK hP 0 rfl rfl 2 (by decide) hq0 (fun _ h9 => h9) rfl dX3_number_91 ?_
    refine lv_iload_n hx hb dX3_number_94 rfl (lv_at hl 3 rfl) ?_
    refine lv_icmp_le (tgt := 113) hx hb dX3_number_95 (by decide) (fun c_1 => ?_) (fun c_1 => ?_)
    · replace hw := okT hw c_1
      clear c_1
      exact w113 v3 o_place _ _ hP hD hS _ (lv_sub hl [0, 3] rfl) hw
    · replace hw := okF hw c_1
      clear c_1
      refine lv_iload hx hb dX3_number_98 (lv_at hl 4 rfl) ?_
      refine lv_iload_n hx hb dX3_number_100 rfl (lv_at hl 1 rfl) ?_
      refine lv_icmp_lt (tgt := 113) hx hb dX3_number_101 (by decide) (fun c_2 => ?_) (fun c_2 => ?_)
      · replace hw := okT hw c_2
        clear c_2
        exact w113 v3 o_place _ _ hP hD hS _ (lv_sub hl [0, 3] rfl) hw
      · replace hw := okF hw c_2
        clear c_2
        refine lv_iload hx hb dX3_number_104 (lv_at hl 4 rfl) ?_
        refine lv_iload_n hx hb dX3_number_106 rfl (lv_at hl 2 rfl) ?_
        refine lv_icmp_gt (tgt := 113) hx hb dX3_number_107 (by decide) (fun c_3 => ?_) (fun c_3 => ?_)
        · replace hw := okT hw c_3
          clear c_3
          exact w113 v3 o_place _ _ hP hD hS _ (lv_sub hl [0, 3] rfl) hw
        · replace hw := okF hw c_3
          clear c_3
          refine lv_iload hx hb dX3_number_110 (lv_at hl 4 rfl) ?_
          rw [hQ]
          exact W.iret (v := v4) hx hb hr (fun t ht hW => ⟨⟨v4, o_place, rfl, okS hw, by rw [ht]; exact hP, va_K.moved hW.alike hK, hD⟩, hS.F ht⟩) hS.2.2 dX3_number_112
  have w12 : ∀ (n : Nat), ∀ (v1 : Int32) (v2 : Int32) (v3 : Int32) (v4 : Int32) (o_place : Int32) (H : Heap) (locs : List Loc), va_P (dC, dI) vwCl (W_X3_number cyI cyJ cyO h_o a_o_bytes a_o_newFar a_o_newTones a_o_newCurrents o_length o_place o_bytes) H → va_D A (W_X3_number cyI cyJ cyO h_o a_o_bytes a_o_newFar a_o_newTones a_o_newCurrents o_length o_place o_bytes) → va_S A s.heap H locs → ∀ (ls : Array Slot), lv_has ls 5 [(0, .ref h_o), (1, .int v1), (2, .int v2), (3, .int v3), (4, .int v4)] → okP (f_X3_number_L12 n v1 v2 v3 v4 o_length o_place o_bytes) post → W p l e (headSpec wsX3_number rm_X3_number).room s m ([.ref h_o, .int x1, .int x2] : List Value).toArray below meth c H locs 0 0 Q (F0 m 12 ls []) := by
    intro n
    induction n with
    | zero =>
      intro v1 v2 v3 v4 o_place H locs hP hD hS ls hl hw
      exact (ok0 hw).elim
    | succ n12 ih12 =>
      intro v1 v2 v3 v4 o_place H locs hP hD hS ls hl hw
      replace hw : okP (f_X3_number_L12b (f_X3_number_L12 n12) v1 v2 v3 v4 o_length o_place o_bytes) post := hw
      unfold f_X3_number_L12b at hw
      refine lv_aload_n hx hb dX3_number_12 rfl (lv_at hl 0 rfl) ?_
      refine va_get (D := (dC, dI)) (ci := 3) (v := .int o_place) (C := RX3) (T := TX3) (N := 6) hx hb hts hi3 hown hK hP 0 rfl rfl 2 (by decide) hq0 (fun _ h9 => h9) rfl dX3_number_13 ?_
      refine lv_aload_n hx hb dX3_number_16 rfl (lv_at hl 0 rfl) ?_
      refine va_get (D := (dC, dI)) (ci := 3) (v := .int o_length) (C := RX3) (T := TX3) (N := 6) hx hb hts hi3 hown hK hP 0 rfl rfl 1 (by decide) hq2 (fun _ h9 => h9) rfl dX3_number_17 ?_
      refine lv_icmp_ge (tgt := 90) hx hb dX3_number_20 (by decide) (fun c_4 => ?_) (fun c_4 => ?_)
      · replace hw := okT hw c_4
        clear c_4
        exact w90 v1 v2 v3 v4 o_place _ _ hP hD hS _ (lv_sub hl [0, 1, 2, 3, 4] rfl) hw
      · replace hw := okF hw c_4
        clear c_4
        refine lv_aload_n hx hb dX3_number_23 rfl (lv_at hl 0 rfl) ?_
        refine va_get (D := (dC, dI)) (ci := 3) (v := .ref a_o_bytes) (C := RX3) (T := TX3) (N := 6) hx hb hts hi3 hown hK hP 0 rfl rfl 0 (by decide) hq3 (fun _ h9 => h9) rfl dX3_number_24 ?_
        refine lv_aload_n hx hb dX3_number_27 rfl (lv_at hl 0 rfl) ?_
        refine va_get (D := (dC, dI)) (ci := 3) (v := .int o_place) (C := RX3) (T := TX3) (N := 6) hx hb hts hi3 hown hK hP 0 rfl rfl 2 (by decide) hq0 (fun _ h9 => h9) rfl dX3_number_28 ?_
        obtain ⟨h_5, hw⟩ := okC hw
        refine va_iald (i := o_place) hx hb hK hP 1 0 rfl rfl h_5 dX3_number_31 ?_
        refine lv_bipush (v := 48) hx hb dX3_number_32 (by decide) ?_
        refine lv_icmp_lt (tgt := 90) hx hb dX3_number_34 (by decide) (fun c_6 => ?_) (fun c_6 => ?_)
        · replace hw := okT hw c_6
          clear c_6
          exact w90 v1 v2 v3 v4 o_place _ _ hP hD hS _ (lv_sub hl [0, 1, 2, 3, 4] rfl) hw
        · replace hw := okF hw c_6
          clear c_6
          refine lv_aload_n hx hb dX3_number_37 rfl (lv_at hl 0 rfl) ?_
          refine va_get (D := (dC, dI)) (ci := 3) (v := .ref a_o_bytes) (C := RX3) (T := TX3) (N := 6) hx hb hts hi3 hown hK hP 0 rfl rfl 0 (by decide) hq3 (fun _ h9 => h9) rfl dX3_number_38 ?_
          refine lv_aload_n hx hb dX3_number_41 rfl (lv_at hl 0 rfl) ?_
          refine va_get (D := (dC, dI)) (ci := 3) (v := .int o_place) (C := RX3) (T := TX3) (N := 6) hx hb hts hi3 hown hK hP 0 rfl rfl 2 (by decide) hq0 (fun _ h9 => h9) rfl dX3_number_42 ?_
          obtain ⟨h_7, hw⟩ := okC hw
          refine va_iald (i := o_place) hx hb hK hP 1 0 rfl rfl h_7 dX3_number_45 ?_
          refine lv_bipush (v := 57) hx hb dX3_number_46 (by decide) ?_
          refine lv_icmp_gt (tgt := 90) hx hb dX3_number_48 (by decide) (fun c_8 => ?_) (fun c_8 => ?_)
          · replace hw := okT hw c_8
            clear c_8
            exact w90 v1 v2 v3 v4 o_place _ _ hP hD hS _ (lv_sub hl [0, 1, 2, 3, 4] rfl) hw
          · replace hw := okF hw c_8
            clear c_8
            refine lv_bipush (v := 10) hx hb dX3_number_51 (by decide) ?_
            refine lv_iload hx hb dX3_number_53 (lv_at hl 4 rfl) ?_
            refine lv_imul hx hb dX3_number_55 ?_
            refine lv_aload_n hx hb dX3_number_56 rfl (lv_at hl 0 rfl) ?_
            refine va_get (D := (dC, dI)) (ci := 3) (v := .ref a_o_bytes) (C := RX3) (T := TX3) (N := 6) hx hb hts hi3 hown hK hP 0 rfl rfl 0 (by decide) hq3 (fun _ h9 => h9) rfl dX3_number_57 ?_
            refine lv_aload_n hx hb dX3_number_60 rfl (lv_at hl 0 rfl) ?_
            refine va_get (D := (dC, dI)) (ci := 3) (v := .int o_place) (C := RX3) (T := TX3) (N := 6) hx hb hts hi3 hown hK hP 0 rfl rfl 2 (by decide) hq0 (fun _ h9 => h9) rfl dX3_number_61 ?_
            obtain ⟨h_9, hw⟩ := okC hw
            refine va_iald (i := o_place) hx hb hK hP 1 0 rfl rfl h_9 dX3_number_64 ?_
            refine lv_iadd hx hb dX3_number_65 ?_
            refine lv_bipush (v := 48) hx hb dX3_number_66 (by decide) ?_
            refine lv_isub hx hb dX3_number_68 ?_
            refine lv_sipush (v := 1000) hx hb dX3_number_69 (by decide) ?_
            refine va_mmin hx hb (hml.trans hl.1.symm) hown hq4 hq5 hq6 hq7 (Nat.le_of_ble_eq_true rfl) (Nat.le_of_ble_eq_true rfl) (Nat.le_of_ble_eq_true rfl) (Nat.le_of_ble_eq_true rfl) dX3_number_72 ?_
            refine lv_topi (fun x_10 ex_10 => ?_)
            replace hw := okN ex_10 hw
            clear ex_10
            refine lv_istore (lv' := [(4, .int x_10), (0, .ref h_o), (1, .int v1), (2, .int v2), (3, .int v3)]) hx hb dX3_number_75 hl (by decide) rfl (fun ls hl => ?_)
            refine lv_aload_n hx hb dX3_number_77 rfl (lv_at hl 1 rfl) ?_
            refine lv_dup hx hb dX3_number_78 rfl ?_
            refine va_get (D := (dC, dI)) (ci := 3) (v := .int o_place) (C := RX3) (T := TX3) (N := 6) hx hb hts hi3 hown hK hP 0 rfl rfl 2 (by decide) hq0 (fun _ h9 => h9) rfl dX3_number_79 ?_
            refine lv_iconst (v := 1) hx hb dX3_number_82 (by decide) ?_
            refine lv_iadd hx hb dX3_number_83 ?_
            refine lv_topi (fun x_11 ex_11 => ?_)
            replace hw := okN ex_11 hw
            clear ex_11
            refine va_put (D := (dC, dI)) (ci := 3) (v := .int x_11) (ty := .int) (C := RX3) (T := TX3) (N := 6) hx hb hts hi3 tyX3 tyX3_ok nmX3 hown hK hP hD hS 0 rfl rfl 2 (by decide) hq0 (fun _ h9 => h9) rfl (by decide +kernel) rfl rfl (Nat.le_of_ble_eq_true rfl) dX3_number_84 (fun H locs hP hD hS => ?_)
            have hP : va_P (dC, dI) vwCl (W_X3_number cyI cyJ cyO h_o a_o_bytes a_o_newFar a_o_newTones a_o_newCurrents o_length x_11 o_bytes) H := hP
            have hD : va_D A (W_X3_number cyI cyJ cyO h_o a_o_bytes a_o_newFar a_o_newTones a_o_newCurrents o_length x_11 o_bytes) := hD
            refine lv_goto (tgt := 12) hx hb dX3_number_87 (by decide) ?_
            exact ih12 v1 v2 v3 x_10 x_11 _ _ hP hD hS _ (lv_sub hl [1, 2, 3, 4, 0] rfl) hw
  unfold f_X3_number at hw
  have hP : va_P (dC, dI) vwCl (W_X3_number cyI cyJ cyO h_o a_o_bytes a_o_newFar a_o_newTones a_o_newCurrents o_length o_place o_bytes) s.heap := hP
  obtain ⟨H, hH⟩ : ∃ H, H = s.heap := ⟨_, rfl⟩
  obtain ⟨locs, hlo⟩ : ∃ x : List Loc, x = [] := ⟨_, rfl⟩
  have hP : va_P (dC, dI) vwCl (W_X3_number cyI cyJ cyO h_o a_o_bytes a_o_newFar a_o_newTones a_o_newCurrents o_length o_place o_bytes) H := by rw [hH]; exact hP
  have hS : va_S A s.heap H locs := by rw [hH, hlo]; exact hS
  refine kH hH hlo ?_
  clear hH hlo
  refine lv_aload_n hx hb dX3_number_0 rfl (lv_at hl 0 rfl) ?_
  have hPc := hP.sub (ws' := (W_X3_skipBlanks cyI cyJ cyO h_o a_o_bytes a_o_newFar a_o_newTones a_o_newCurrents o_length o_place o_bytes)) [0, 1] rfl
  have hDc := hD.sub (ws' := (W_X3_skipBlanks cyI cyJ cyO h_o a_o_bytes a_o_newFar a_o_newTones a_o_newCurrents o_length o_place o_bytes)) [0, 1] (by decide) rfl
  have hFc := va_free (wc := (W_X3_skipBlanks cyI cyJ cyO h_o a_o_bytes a_o_newFar a_o_newTones a_o_newCurrents o_length o_place o_bytes)) hD hS hA [0, 1] rfl
  refine kc_v (va_runV (As := []) (rest := []) ⟨hx, hb, hml, hown, hts⟩ (c_X3_skipBlanks l dC dI cyI cyJ cyO H.size h_o a_o_bytes a_o_newFar a_o_newTones a_o_newCurrents o_length o_place o_bytes _ (okb1 hw)) (cwV 0 hts gX3_number_X3_skipBlanks rfl rfl rfl (by decide +kernel) ⟨Nat.le_of_ble_eq_true rfl, Nat.le_of_ble_eq_true rfl⟩) ⟨(kpre zN_ok hK hPc hDc trivial hS hFc).1, va_recv hK hP (ci := 3) (q0 := 0) rfl rfl, (kpre zN_ok hK hPc hDc trivial hS hFc).2⟩ rfl rfl hl.1 rfl (lv_room (Nat.le_of_ble_eq_true rfl)) dX3_number_1 ⟨Nat.le_of_ble_eq_true rfl, Nat.le_of_ble_eq_true rfl⟩) hP hD hS hFc [0, 1] [] rfl rfl (by decide) (by decide) (fun w_12 H locs hw hP hD hS => ?_)
  dsimp only at hw
  have hP : va_P (dC, dI) vwCl (W_X3_number cyI cyJ cyO h_o a_o_bytes a_o_newFar a_o_newTones a_o_newCurrents o_length w_12 o_bytes) H := hP.sub [0, 1] rfl
  have hD : va_D A (W_X3_number cyI cyJ cyO h_o a_o_bytes a_o_newFar a_o_newTones a_o_newCurrents o_length w_12 o_bytes) := hD.sub [0, 1] (by decide) rfl
  clear hPc hDc hFc
  refine lv_aload_n hx hb dX3_number_4 rfl (lv_at hl 0 rfl) ?_
  refine va_get (D := (dC, dI)) (ci := 3) (v := .int w_12) (C := RX3) (T := TX3) (N := 6) hx hb hts hi3 hown hK hP 0 rfl rfl 2 (by decide) hq0 (fun _ h9 => h9) rfl dX3_number_5 ?_
  refine lv_istore_n (lv' := [(3, .int w_12), (0, .ref h_o), (1, .int x1), (2, .int x2)]) hx hb dX3_number_8 rfl hl (by decide) rfl (fun ls hl => ?_)
  refine lv_iconst (v := 0) hx hb dX3_number_9 (by decide) ?_
  refine lv_istore (lv' := [(4, .int 0), (3, .int w_12), (0, .ref h_o), (1, .int x1), (2, .int x2)]) hx hb dX3_number_10 hl (by decide) rfl (fun ls hl => ?_)
  exact w12 FU x1 x2 w_12 0 w_12 _ _ hP hD hS _ (lv_sub hl [2, 3, 4, 1, 0] rfl) hw
