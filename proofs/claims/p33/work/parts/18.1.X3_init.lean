abbrev rm_X3_init : Room := { frames := 1, cells := 4, slots := 84, locals := 12 }
set_option maxRecDepth 100000 in
set_option maxHeartbeats 4000000 in
theorem c_X3_init (l : Launch) (dC : Nat → ClassId) (dI : Nat → Nat → Nat) (cyI cyJ cyO : ClassId) (sz : Nat) (h_o : Nat) : Cn l (dC, dI) (tyL cyI cyJ cyO) yX3_init wsX3_init rm_X3_init [.ref h_o] sz [(h_o, .inr (3, [.null, .int 0, .int 0, .null, .null, .null]))] zN 4 84 (fun _ : Nat × Nat × Nat × Nat => True) (fun u => [(h_o, .inr (3, [.ref u.1, .int 0, .int 0, .ref u.2.1, .ref u.2.2.1, .ref u.2.2.2])), (u.1, .inl (cyI, 60, .inl (fun _ => 0))), (u.2.1, .inl (cyI, 7, .inl (fun _ => 0))), (u.2.2.1, .inl (cyI, 7, .inl (fun _ => 0))), (u.2.2.2, .inl (cyI, 10, .inl (fun _ => 0)))]) := by
  refine Met.ofW (cc := cX3_init) (maxL := 1) (ret := none) (by decide) rfl ?_
  intro p e s m args below meth c s₁ B hml hv
  obtain ⟨rfl, hsz, hP, hK, hD0, hZ⟩ := hv
  have hx := B.exec
  have hb := B.bytes
  have hr := B.returns
  have hts := atoms_spec (ws := wsX3_init) B.pre
  have hown : s.vm.findClass RX3 = some m.cls := findClass_of_methodNamed B.named
  have hlocks := B.notSynchronized
  subst hsz
  have hD := hD0.self (sz := s.heap.size)
  generalize hAe : va_A [(h_o, .inr (3, [.null, .int 0, .int 0, .null, .null, .null]))] s.heap.size = A at hD hZ ⊢
  have hA : ∀ q : Nat, s.heap.size ≤ q → A q := fun q h => by rw [← hAe]; exact Or.inr h
  clear hAe hD0
  have hS : va_S A s.heap s.heap [] := va_S.rf
  have hl := lv_entry ([.ref h_o]) (n := 1) (Nat.le_of_ble_eq_true rfl)
  rw [lg_entry_eq]
  generalize (lg_sl ([.ref h_o]) ++ List.replicate (1 - (lg_sl ([.ref h_o])).length) Slot.unset).toArray = ls at hl ⊢
  have hl : lv_has ls 1 [(0, .ref h_o)] := hl
  refine kW (fun Q hQ => ?_)
  have hP : va_P (dC, dI) vwCl [(h_o, .inr (3, [.null, .int 0, .int 0, .null, .null, .null]))] s.heap := hP
  obtain ⟨H, hH⟩ : ∃ H, H = s.heap := ⟨_, rfl⟩
  obtain ⟨locs, hlo⟩ : ∃ x : List Loc, x = [] := ⟨_, rfl⟩
  have hP : va_P (dC, dI) vwCl [(h_o, .inr (3, [.null, .int 0, .int 0, .null, .null, .null]))] H := by rw [hH]; exact hP
  have hS : va_S A s.heap H locs := by rw [hH, hlo]; exact hS
  refine kH hH hlo ?_
  clear hH hlo
  have hq0 := hts _ (List.mem_cons_of_mem _ q_230)
  have hq1 := hts _ (List.mem_cons_of_mem _ q_17)
  have hq2 := hts _ (List.mem_cons_of_mem _ q_18)
  have hq3 := hts _ (List.mem_cons_of_mem _ q_110)
  have hq4 := hts _ (List.mem_cons_of_mem _ q_231)
  have hi3 : ∀ w ∈ u_ws RX3 TX3 6, w ∈ wsX3_init := fun w h => List.mem_cons_of_mem _ (inX3 w h)
  have hq6 := hts _ (List.mem_cons_of_mem _ q_232)
  have hq7 := hts _ (List.mem_cons_of_mem _ q_233)
  have hq8 := hts _ (List.mem_cons_of_mem _ q_234)
  have hq9 := hts _ (List.mem_cons_of_mem _ q_235)
  have hq10 := hts _ (List.mem_cons_of_mem _ q_236)
  have hin : meth.name = "<init>" := (name_of_methodNamed B.named B.method).1
  refine lv_aload_n hx hb dX3_init_0 rfl (lv_at hl 0 rfl) ?_
  refine W.objInit hx hb hown hq0 hq1 hq2 rfl (by rw [hml]; exact hl.1) rfl dX3_init_1 (Nat.le_of_ble_eq_true rfl) (Nat.le_of_ble_eq_true rfl) ?_
  refine W.eq (g2 := F0 m 4 ls []) rfl ?_
  refine lv_aload_n hx hb dX3_init_4 rfl (lv_at hl 0 rfl) ?_
  refine lv_bipush (v := 60) hx hb dX3_init_5 (by decide) ?_
  refine kNewI (n := 60) (N := 60) hx hb hq3 hK hP hD hS hA (by decide) (by decide) (by decide) (Nat.le_of_ble_eq_true rfl) (Nat.le_of_ble_eq_true rfl) dX3_init_7 (fun a_o_bytes H hP hD hS => ?_)
  have hP : va_P (dC, dI) vwCl [(h_o, .inr (3, [.null, .int 0, .int 0, .null, .null, .null])), (a_o_bytes, .inl (cyI, 60, .inl (fun _ => 0)))] H := hP
  have hD : va_D A [(h_o, .inr (3, [.null, .int 0, .int 0, .null, .null, .null])), (a_o_bytes, .inl (cyI, 60, .inl (fun _ => 0)))] := hD
  refine W.widen (k := 1) (n := 60) (Nat.le_of_ble_eq_true rfl) (Nat.le_of_ble_eq_true rfl) ?_
  refine va_putF (D := (dC, dI)) (ci := 3) (v := .ref a_o_bytes) (ty := (.array .int)) (C := RX3) (T := TX3) (N := 6) hx hb hts hi3 tyX3 tyX3_ok nmX3 hown hK hP hD hS 0 rfl rfl 0 (by decide) hq4 (fun _ h9 => h9) rfl hin rfl (by decide +kernel) rfl rfl (Nat.le_of_ble_eq_true rfl) dX3_init_9 (fun H locs hP hD hS => ?_)
  have hP : va_P (dC, dI) vwCl [(h_o, .inr (3, [.ref a_o_bytes, .int 0, .int 0, .null, .null, .null])), (a_o_bytes, .inl (cyI, 60, .inl (fun _ => 0)))] H := hP
  have hD : va_D A [(h_o, .inr (3, [.ref a_o_bytes, .int 0, .int 0, .null, .null, .null])), (a_o_bytes, .inl (cyI, 60, .inl (fun _ => 0)))] := hD
  refine lv_aload_n hx hb dX3_init_12 rfl (lv_at hl 0 rfl) ?_
  refine lv_iconst (v := 0) hx hb dX3_init_13 (by decide) ?_
  refine va_put (D := (dC, dI)) (ci := 3) (v := .int 0) (ty := .int) (C := RX3) (T := TX3) (N := 6) hx hb hts hi3 tyX3 tyX3_ok nmX3 hown hK hP hD hS 0 rfl rfl 1 (by decide) hq6 (fun _ h9 => h9) rfl (by decide +kernel) rfl rfl (Nat.le_of_ble_eq_true rfl) dX3_init_14 (fun H locs hP hD hS => ?_)
  have hP : va_P (dC, dI) vwCl [(h_o, .inr (3, [.ref a_o_bytes, .int 0, .int 0, .null, .null, .null])), (a_o_bytes, .inl (cyI, 60, .inl (fun _ => 0)))] H := hP
  have hD : va_D A [(h_o, .inr (3, [.ref a_o_bytes, .int 0, .int 0, .null, .null, .null])), (a_o_bytes, .inl (cyI, 60, .inl (fun _ => 0)))] := hD
  refine lv_aload_n hx hb dX3_init_17 rfl (lv_at hl 0 rfl) ?_
  refine lv_iconst (v := 0) hx hb dX3_init_18 (by decide) ?_
  refine va_put (D := (dC, dI)) (ci := 3) (v := .int 0) (ty := .int) (C := RX3) (T := TX3) (N := 6) hx hb hts hi3 tyX3 tyX3_ok nmX3 hown hK hP hD hS 0 rfl rfl 2 (by decide) hq7 (fun _ h9 => h9) rfl (by decide +kernel) rfl rfl (Nat.le_of_ble_eq_true rfl) dX3_init_19 (fun H locs hP hD hS => ?_)
  have hP : va_P (dC, dI) vwCl [(h_o, .inr (3, [.ref a_o_bytes, .int 0, .int 0, .null, .null, .null])), (a_o_bytes, .inl (cyI, 60, .inl (fun _ => 0)))] H := hP
  have hD : va_D A [(h_o, .inr (3, [.ref a_o_bytes, .int 0, .int 0, .null, .null, .null])), (a_o_bytes, .inl (cyI, 60, .inl (fun _ => 0)))] := hD
  refine lv_aload_n hx hb dX3_init_22 rfl (lv_at hl 0 rfl) ?_
  refine lv_bipush (v := 7) hx hb dX3_init_23 (by decide) ?_
  refine kNewI (n := 7) (N := 7) hx hb hq3 hK hP hD hS hA (by decide) (by decide) (by decide) (Nat.le_of_ble_eq_true rfl) (Nat.le_of_ble_eq_true rfl) dX3_init_25 (fun a_o_newFar H hP hD hS => ?_)
  have hP : va_P (dC, dI) vwCl [(h_o, .inr (3, [.ref a_o_bytes, .int 0, .int 0, .null, .null, .null])), (a_o_bytes, .inl (cyI, 60, .inl (fun _ => 0))), (a_o_newFar, .inl (cyI, 7, .inl (fun _ => 0)))] H := hP
  have hD : va_D A [(h_o, .inr (3, [.ref a_o_bytes, .int 0, .int 0, .null, .null, .null])), (a_o_bytes, .inl (cyI, 60, .inl (fun _ => 0))), (a_o_newFar, .inl (cyI, 7, .inl (fun _ => 0)))] := hD
  refine W.widen (k := 2) (n := 67) (Nat.le_of_ble_eq_true rfl) (Nat.le_of_ble_eq_true rfl) ?_
  refine va_putF (D := (dC, dI)) (ci := 3) (v := .ref a_o_newFar) (ty := (.array .int)) (C := RX3) (T := TX3) (N := 6) hx hb hts hi3 tyX3 tyX3_ok nmX3 hown hK hP hD hS 0 rfl rfl 3 (by decide) hq8 (fun _ h9 => h9) rfl hin rfl (by decide +kernel) rfl rfl (Nat.le_of_ble_eq_true rfl) dX3_init_27 (fun H locs hP hD hS => ?_)
  have hP : va_P (dC, dI) vwCl [(h_o, .inr (3, [.ref a_o_bytes, .int 0, .int 0, .ref a_o_newFar, .null, .null])), (a_o_bytes, .inl (cyI, 60, .inl (fun _ => 0))), (a_o_newFar, .inl (cyI, 7, .inl (fun _ => 0)))] H := hP
  have hD : va_D A [(h_o, .inr (3, [.ref a_o_bytes, .int 0, .int 0, .ref a_o_newFar, .null, .null])), (a_o_bytes, .inl (cyI, 60, .inl (fun _ => 0))), (a_o_newFar, .inl (cyI, 7, .inl (fun _ => 0)))] := hD
  refine lv_aload_n hx hb dX3_init_30 rfl (lv_at hl 0 rfl) ?_
  refine lv_bipush (v := 7) hx hb dX3_init_31 (by decide) ?_
  refine kNewI (n := 7) (N := 7) hx hb hq3 hK hP hD hS hA (by decide) (by decide) (by decide) (Nat.le_of_ble_eq_true rfl) (Nat.le_of_ble_eq_true rfl) dX3_init_33 (fun a_o_newTones H hP hD hS => ?_)
  have hP : va_P (dC, dI) vwCl [(h_o, .inr (3, [.ref a_o_bytes, .int 0, .int 0, .ref a_o_newFar, .null, .null])), (a_o_bytes, .inl (cyI, 60, .inl (fun _ => 0))), (a_o_newFar, .inl (cyI, 7, .inl (fun _ => 0))), (a_o_newTones, .inl (cyI, 7, .inl (fun _ => 0)))] H := hP
  have hD : va_D A [(h_o, .inr (3, [.ref a_o_bytes, .int 0, .int 0, .ref a_o_newFar, .null, .null])), (a_o_bytes, .inl (cyI, 60, .inl (fun _ => 0))), (a_o_newFar, .inl (cyI, 7, .inl (fun _ => 0))), (a_o_newTones, .inl (cyI, 7, .inl (fun _ => 0)))] := hD
  refine W.widen (k := 3) (n := 74) (Nat.le_of_ble_eq_true rfl) (Nat.le_of_ble_eq_true rfl) ?_
  refine va_putF (D := (dC, dI)) (ci := 3) (v := .ref a_o_newTones) (ty := (.array .int)) (C := RX3) (T := TX3) (N := 6) hx hb hts hi3 tyX3 tyX3_ok nmX3 hown hK hP hD hS 0 rfl rfl 4 (by decide) hq9 (fun _ h9 => h9) rfl hin rfl (by decide +kernel) rfl rfl (Nat.le_of_ble_eq_true rfl) dX3_init_35 (fun H locs hP hD hS => ?_)
  have hP : va_P (dC, dI) vwCl [(h_o, .inr (3, [.ref a_o_bytes, .int 0, .int 0, .ref a_o_newFar, .ref a_o_newTones, .null])), (a_o_bytes, .inl (cyI, 60, .inl (fun _ => 0))), (a_o_newFar, .inl (cyI, 7, .inl (fun _ => 0))), (a_o_newTones, .inl (cyI, 7, .inl (fun _ => 0)))] H := hP
  have hD : va_D A [(h_o, .inr (3, [.ref a_o_bytes, .int 0, .int 0, .ref a_o_newFar, .ref a_o_newTones, .null])), (a_o_bytes, .inl (cyI, 60, .inl (fun _ => 0))), (a_o_newFar, .inl (cyI, 7, .inl (fun _ => 0))), (a_o_newTones, .inl (cyI, 7, .inl (fun _ => 0)))] := hD
  refine lv_aload_n hx hb dX3_init_38 rfl (lv_at hl 0 rfl) ?_
  refine lv_bipush (v := 10) hx hb dX3_init_39 (by decide) ?_
  refine kNewI (n := 10) (N := 10) hx hb hq3 hK hP hD hS hA (by decide) (by decide) (by decide) (Nat.le_of_ble_eq_true rfl) (Nat.le_of_ble_eq_true rfl) dX3_init_41 (fun a_o_newCurrents H hP hD hS => ?_)
  have hP : va_P (dC, dI) vwCl [(h_o, .inr (3, [.ref a_o_bytes, .int 0, .int 0, .ref a_o_newFar, .ref a_o_newTones, .null])), (a_o_bytes, .inl (cyI, 60, .inl (fun _ => 0))), (a_o_newFar, .inl (cyI, 7, .inl (fun _ => 0))), (a_o_newTones, .inl (cyI, 7, .inl (fun _ => 0))), (a_o_newCurrents, .inl (cyI, 10, .inl (fun _ => 0)))] H := hP
  have hD : va_D A [(h_o, .inr (3, [.ref a_o_bytes, .int 0, .int 0, .ref a_o_newFar, .ref a_o_newTones, .null])), (a_o_bytes, .inl (cyI, 60, .inl (fun _ => 0))), (a_o_newFar, .inl (cyI, 7, .inl (fun _ => 0))), (a_o_newTones, .inl (cyI, 7, .inl (fun _ => 0))), (a_o_newCurrents, .inl (cyI, 10, .inl (fun _ => 0)))] := hD
  refine W.widen (k := 4) (n := 84) (Nat.le_of_ble_eq_true rfl) (Nat.le_of_ble_eq_true rfl) ?_
  refine va_putF (D := (dC, dI)) (ci := 3) (v := .ref a_o_newCurrents) (ty := (.array .int)) (C := RX3) (T := TX3) (N := 6) hx hb hts hi3 tyX3 tyX3_ok nmX3 hown hK hP hD hS 0 rfl rfl 5 (by decide) hq10 (fun _ h9 => h9) rfl hin rfl (by decide +kernel) rfl rfl (Nat.le_of_ble_eq_true rfl) dX3_init_43 (fun H locs hP hD hS => ?_)
  have hP : va_P (dC, dI) vwCl [(h_o, .inr (3, [.ref a_o_bytes, .int 0, .int 0, .ref a_o_newFar, .ref a_o_newTones, .ref a_o_newCurrents])), (a_o_bytes, .inl (cyI, 60, .inl (fun _ => 0))), (a_o_newFar, .inl (cyI, 7, .inl (fun _ => 0))), (a_o_newTones, .inl (cyI, 7, .inl (fun _ => 0))), (a_o_newCurrents, .inl (cyI, 10, .inl (fun _ => 0)))] H := hP
  have hD : va_D A [(h_o, .inr (3, [.ref a_o_bytes, .int 0, .int 0, .ref a_o_newFar, .ref a_o_newTones, .ref a_o_newCurrents])), (a_o_bytes, .inl (cyI, 60, .inl (fun _ => 0))), (a_o_newFar, .inl (cyI, 7, .inl (fun _ => 0))), (a_o_newTones, .inl (cyI, 7, .inl (fun _ => 0))), (a_o_newCurrents, .inl (cyI, 10, .inl (fun _ => 0)))] := hD
  have hP : va_P (dC, dI) vwCl [(h_o, .inr (3, [.ref a_o_bytes, .int 0, .int 0, .ref a_o_newFar, .ref a_o_newTones, .ref a_o_newCurrents])), (a_o_bytes, .inl (cyI, 60, .inl (fun _ => 0))), (a_o_newFar, .inl (cyI, 7, .inl (fun _ => 0))), (a_o_newTones, .inl (cyI, 7, .inl (fun _ => 0))), (a_o_newCurrents, .inl (cyI, 10, .inl (fun _ => 0)))] H := hP.sub [0, 1, 2, 3, 4] rfl
  have hD : va_D A [(h_o, .inr (3, [.ref a_o_bytes, .int 0, .int 0, .ref a_o_newFar, .ref a_o_newTones, .ref a_o_newCurrents])), (a_o_bytes, .inl (cyI, 60, .inl (fun _ => 0))), (a_o_newFar, .inl (cyI, 7, .inl (fun _ => 0))), (a_o_newTones, .inl (cyI, 7, .inl (fun _ => 0))), (a_o_newCurrents, .inl (cyI, 10, .inl (fun _ => 0)))] := hD.sub [0, 1, 2, 3, 4] (by decide +kernel) rfl
  rw [hQ]
  exact W.vret hx hb hr (fun t ht hW => ⟨⟨(a_o_bytes, a_o_newFar, a_o_newTones, a_o_newCurrents), rfl, trivial, by rw [ht]; exact hP, va_K.moved hW.alike hK, hD⟩, hS.F ht⟩) hS.2.2 dX3_init_46
