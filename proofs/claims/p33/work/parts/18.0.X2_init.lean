abbrev rm_X2_init : Room := { frames := 1, cells := 1, slots := 16, locals := 12 }
set_option maxRecDepth 100000 in
set_option maxHeartbeats 4000000 in
theorem c_X2_init (l : Launch) (dC : Nat → ClassId) (dI : Nat → Nat → Nat) (cyI cyJ cyO : ClassId) (sz : Nat) (h_o : Nat) : Cn l (dC, dI) (tyL cyI cyJ cyO) yX2_init wsX2_init rm_X2_init [.ref h_o] sz [(h_o, .inr (2, [.null, .int 0, .int 0]))] zN 1 16 (fun _ : Nat => True) (fun u => [(h_o, .inr (2, [.ref u, .int (-1), .int 0])), (u, .inl (cyI, 16, .inl (fun _ => 0)))]) := by
  refine Met.ofW (cc := cX2_init) (maxL := 1) (ret := none) (by decide) rfl ?_
  intro p e s m args below meth c s₁ B hml hv
  obtain ⟨rfl, hsz, hP, hK, hD0, hZ⟩ := hv
  have hx := B.exec
  have hb := B.bytes
  have hr := B.returns
  have hts := atoms_spec (ws := wsX2_init) B.pre
  have hown : s.vm.findClass RX2 = some m.cls := findClass_of_methodNamed B.named
  have hlocks := B.notSynchronized
  subst hsz
  have hD := hD0.self (sz := s.heap.size)
  generalize hAe : va_A [(h_o, .inr (2, [.null, .int 0, .int 0]))] s.heap.size = A at hD hZ ⊢
  have hA : ∀ q : Nat, s.heap.size ≤ q → A q := fun q h => by rw [← hAe]; exact Or.inr h
  clear hAe hD0
  have hS : va_S A s.heap s.heap [] := va_S.rf
  have hl := lv_entry ([.ref h_o]) (n := 1) (Nat.le_of_ble_eq_true rfl)
  rw [lg_entry_eq]
  generalize (lg_sl ([.ref h_o]) ++ List.replicate (1 - (lg_sl ([.ref h_o])).length) Slot.unset).toArray = ls at hl ⊢
  have hl : lv_has ls 1 [(0, .ref h_o)] := hl
  refine kW (fun Q hQ => ?_)
  have hP : va_P (dC, dI) vwCl [(h_o, .inr (2, [.null, .int 0, .int 0]))] s.heap := hP
  obtain ⟨H, hH⟩ : ∃ H, H = s.heap := ⟨_, rfl⟩
  obtain ⟨locs, hlo⟩ : ∃ x : List Loc, x = [] := ⟨_, rfl⟩
  have hP : va_P (dC, dI) vwCl [(h_o, .inr (2, [.null, .int 0, .int 0]))] H := by rw [hH]; exact hP
  have hS : va_S A s.heap H locs := by rw [hH, hlo]; exact hS
  refine kH hH hlo ?_
  clear hH hlo
  have hq0 := hts _ (List.mem_cons_of_mem _ q_256)
  have hq1 := hts _ (List.mem_cons_of_mem _ q_17)
  have hq2 := hts _ (List.mem_cons_of_mem _ q_18)
  have hq3 := hts _ (List.mem_cons_of_mem _ q_110)
  have hq4 := hts _ (List.mem_cons_of_mem _ q_257)
  have hi2 : ∀ w ∈ u_ws RX2 TX2 3, w ∈ wsX2_init := fun w h => List.mem_cons_of_mem _ (inX2 w h)
  have hq6 := hts _ (List.mem_cons_of_mem _ q_259)
  have hq7 := hts _ (List.mem_cons_of_mem _ q_261)
  have hin : meth.name = "<init>" := (name_of_methodNamed B.named B.method).1
  refine lv_aload_n hx hb dX2_init_0 rfl (lv_at hl 0 rfl) ?_
  refine W.objInit hx hb hown hq0 hq1 hq2 rfl (by rw [hml]; exact hl.1) rfl dX2_init_1 (Nat.le_of_ble_eq_true rfl) (Nat.le_of_ble_eq_true rfl) ?_
  refine W.eq (g2 := F0 m 4 ls []) rfl ?_
  refine lv_aload_n hx hb dX2_init_4 rfl (lv_at hl 0 rfl) ?_
  refine lv_bipush (v := 16) hx hb dX2_init_5 (by decide) ?_
  refine kNewI (n := 16) (N := 16) hx hb hq3 hK hP hD hS hA (by decide) (by decide) (by decide) (Nat.le_of_ble_eq_true rfl) (Nat.le_of_ble_eq_true rfl) dX2_init_7 (fun a_o_items H hP hD hS => ?_)
  have hP : va_P (dC, dI) vwCl [(h_o, .inr (2, [.null, .int 0, .int 0])), (a_o_items, .inl (cyI, 16, .inl (fun _ => 0)))] H := hP
  have hD : va_D A [(h_o, .inr (2, [.null, .int 0, .int 0])), (a_o_items, .inl (cyI, 16, .inl (fun _ => 0)))] := hD
  refine W.widen (k := 1) (n := 16) (Nat.le_of_ble_eq_true rfl) (Nat.le_of_ble_eq_true rfl) ?_
  refine va_putF (D := (dC, dI)) (ci := 2) (v := .ref a_o_items) (ty := (.array .int)) (C := RX2) (T := TX2) (N := 3) hx hb hts hi2 tyX2 tyX2_ok nmX2 hown hK hP hD hS 0 rfl rfl 0 (by decide) hq4 (fun _ h9 => h9) rfl hin rfl (by decide +kernel) rfl rfl (Nat.le_of_ble_eq_true rfl) dX2_init_9 (fun H locs hP hD hS => ?_)
  have hP : va_P (dC, dI) vwCl [(h_o, .inr (2, [.ref a_o_items, .int 0, .int 0])), (a_o_items, .inl (cyI, 16, .inl (fun _ => 0)))] H := hP
  have hD : va_D A [(h_o, .inr (2, [.ref a_o_items, .int 0, .int 0])), (a_o_items, .inl (cyI, 16, .inl (fun _ => 0)))] := hD
  refine lv_aload_n hx hb dX2_init_12 rfl (lv_at hl 0 rfl) ?_
  refine lv_iconst (v := (-1)) hx hb dX2_init_13 (by decide) ?_
  refine va_put (D := (dC, dI)) (ci := 2) (v := .int (-1)) (ty := .int) (C := RX2) (T := TX2) (N := 3) hx hb hts hi2 tyX2 tyX2_ok nmX2 hown hK hP hD hS 0 rfl rfl 1 (by decide) hq6 (fun _ h9 => h9) rfl (by decide +kernel) rfl rfl (Nat.le_of_ble_eq_true rfl) dX2_init_14 (fun H locs hP hD hS => ?_)
  have hP : va_P (dC, dI) vwCl [(h_o, .inr (2, [.ref a_o_items, .int (-1), .int 0])), (a_o_items, .inl (cyI, 16, .inl (fun _ => 0)))] H := hP
  have hD : va_D A [(h_o, .inr (2, [.ref a_o_items, .int (-1), .int 0])), (a_o_items, .inl (cyI, 16, .inl (fun _ => 0)))] := hD
  refine lv_aload_n hx hb dX2_init_17 rfl (lv_at hl 0 rfl) ?_
  refine lv_iconst (v := 0) hx hb dX2_init_18 (by decide) ?_
  refine va_put (D := (dC, dI)) (ci := 2) (v := .int 0) (ty := .int) (C := RX2) (T := TX2) (N := 3) hx hb hts hi2 tyX2 tyX2_ok nmX2 hown hK hP hD hS 0 rfl rfl 2 (by decide) hq7 (fun _ h9 => h9) rfl (by decide +kernel) rfl rfl (Nat.le_of_ble_eq_true rfl) dX2_init_19 (fun H locs hP hD hS => ?_)
  have hP : va_P (dC, dI) vwCl [(h_o, .inr (2, [.ref a_o_items, .int (-1), .int 0])), (a_o_items, .inl (cyI, 16, .inl (fun _ => 0)))] H := hP
  have hD : va_D A [(h_o, .inr (2, [.ref a_o_items, .int (-1), .int 0])), (a_o_items, .inl (cyI, 16, .inl (fun _ => 0)))] := hD
  have hP : va_P (dC, dI) vwCl [(h_o, .inr (2, [.ref a_o_items, .int (-1), .int 0])), (a_o_items, .inl (cyI, 16, .inl (fun _ => 0)))] H := hP.sub [0, 1] rfl
  have hD : va_D A [(h_o, .inr (2, [.ref a_o_items, .int (-1), .int 0])), (a_o_items, .inl (cyI, 16, .inl (fun _ => 0)))] := hD.sub [0, 1] (by decide +kernel) rfl
  rw [hQ]
  exact W.vret hx hb hr (fun t ht hW => ⟨⟨a_o_items, rfl, trivial, by rw [ht]; exact hP, va_K.moved hW.alike hK, hD⟩, hS.F ht⟩) hS.2.2 dX2_init_22
