abbrev rm_X0_init : Room := { frames := 1, cells := 1, slots := 100, locals := 12 }
set_option maxRecDepth 100000 in
set_option maxHeartbeats 4000000 in
theorem c_X0_init (l : Launch) (dC : Nat → ClassId) (dI : Nat → Nat → Nat) (cyI cyJ cyO : ClassId) (sz : Nat) (h_o h_told h_seas : Nat) : Cn l (dC, dI) (tyL cyI cyJ cyO) yX0_init wsX0_init rm_X0_init [.ref h_o, .ref h_told, .ref h_seas] sz [(h_o, .inr (0, [.null, .null, .null, .long 0]))] zN 1 100 (fun _ : Nat => True) (fun u => [(h_o, .inr (0, [.ref h_told, .ref h_seas, .ref u, .long 0])), (u, .inl (cyJ, 100, .inr (.inl (fun _ => 0))))]) := by
  refine Met.ofW (cc := cX0_init) (maxL := 3) (ret := none) (by decide) rfl ?_
  intro p e s m args below meth c s₁ B hml hv
  obtain ⟨rfl, hsz, hP, hK, hD0, hZ⟩ := hv
  have hx := B.exec
  have hb := B.bytes
  have hr := B.returns
  have hts := atoms_spec (ws := wsX0_init) B.pre
  have hown : s.vm.findClass RX0 = some m.cls := findClass_of_methodNamed B.named
  have hlocks := B.notSynchronized
  subst hsz
  have hD := hD0.self (sz := s.heap.size)
  generalize hAe : va_A [(h_o, .inr (0, [.null, .null, .null, .long 0]))] s.heap.size = A at hD hZ ⊢
  have hA : ∀ q : Nat, s.heap.size ≤ q → A q := fun q h => by rw [← hAe]; exact Or.inr h
  clear hAe hD0
  have hS : va_S A s.heap s.heap [] := va_S.rf
  have hl := lv_entry ([.ref h_o, .ref h_told, .ref h_seas]) (n := 3) (Nat.le_of_ble_eq_true rfl)
  rw [lg_entry_eq]
  generalize (lg_sl ([.ref h_o, .ref h_told, .ref h_seas]) ++ List.replicate (3 - (lg_sl ([.ref h_o, .ref h_told, .ref h_seas])).length) Slot.unset).toArray = ls at hl ⊢
  have hl : lv_has ls 3 [(0, .ref h_o), (1, .ref h_told), (2, .ref h_seas)] := hl
  refine kW (fun Q hQ => ?_)
  have hP : va_P (dC, dI) vwCl [(h_o, .inr (0, [.null, .null, .null, .long 0]))] s.heap := hP
  obtain ⟨H, hH⟩ : ∃ H, H = s.heap := ⟨_, rfl⟩
  obtain ⟨locs, hlo⟩ : ∃ x : List Loc, x = [] := ⟨_, rfl⟩
  have hP : va_P (dC, dI) vwCl [(h_o, .inr (0, [.null, .null, .null, .long 0]))] H := by rw [hH]; exact hP
  have hS : va_S A s.heap H locs := by rw [hH, hlo]; exact hS
  refine kH hH hlo ?_
  clear hH hlo
  have hq0 := hts _ (List.mem_cons_of_mem _ q_209)
  have hq1 := hts _ (List.mem_cons_of_mem _ q_17)
  have hq2 := hts _ (List.mem_cons_of_mem _ q_18)
  have hq3 := hts _ (List.mem_cons_of_mem _ q_186)
  have hq4 := hts _ (List.mem_cons_of_mem _ q_212)
  have hi0 : ∀ w ∈ u_ws RX0 TX0 4, w ∈ wsX0_init := fun w h => List.mem_cons_of_mem _ (inX0 w h)
  have hq6 := hts _ (List.mem_cons_of_mem _ q_214)
  have hq7 := hts _ (List.mem_cons_of_mem _ q_210)
  have hq8 := hts _ (List.mem_cons_of_mem _ q_211)
  have hin : meth.name = "<init>" := (name_of_methodNamed B.named B.method).1
  refine lv_aload_n hx hb dX0_init_0 rfl (lv_at hl 0 rfl) ?_
  refine W.objInit hx hb hown hq0 hq1 hq2 rfl (by rw [hml]; exact hl.1) rfl dX0_init_1 (Nat.le_of_ble_eq_true rfl) (Nat.le_of_ble_eq_true rfl) ?_
  refine W.eq (g2 := F0 m 4 ls []) rfl ?_
  refine lv_aload_n hx hb dX0_init_4 rfl (lv_at hl 0 rfl) ?_
  refine lv_bipush (v := 100) hx hb dX0_init_5 (by decide) ?_
  refine kNewJ (n := 100) (N := 100) hx hb hq3 hK hP hD hS hA (by decide) (by decide) (by decide) (Nat.le_of_ble_eq_true rfl) (Nat.le_of_ble_eq_true rfl) dX0_init_7 (fun a_o_sums H hP hD hS => ?_)
  have hP : va_P (dC, dI) vwCl [(h_o, .inr (0, [.null, .null, .null, .long 0])), (a_o_sums, .inl (cyJ, 100, .inr (.inl (fun _ => 0))))] H := hP
  have hD : va_D A [(h_o, .inr (0, [.null, .null, .null, .long 0])), (a_o_sums, .inl (cyJ, 100, .inr (.inl (fun _ => 0))))] := hD
  refine W.widen (k := 1) (n := 100) (Nat.le_of_ble_eq_true rfl) (Nat.le_of_ble_eq_true rfl) ?_
  refine va_putF (D := (dC, dI)) (ci := 0) (v := .ref a_o_sums) (ty := (.array .long)) (C := RX0) (T := TX0) (N := 4) hx hb hts hi0 tyX0 tyX0_ok nmX0 hown hK hP hD hS 0 rfl rfl 2 (by decide) hq4 (fun _ h9 => h9) rfl hin rfl (by decide +kernel) rfl rfl (Nat.le_of_ble_eq_true rfl) dX0_init_9 (fun H locs hP hD hS => ?_)
  have hP : va_P (dC, dI) vwCl [(h_o, .inr (0, [.null, .null, .ref a_o_sums, .long 0])), (a_o_sums, .inl (cyJ, 100, .inr (.inl (fun _ => 0))))] H := hP
  have hD : va_D A [(h_o, .inr (0, [.null, .null, .ref a_o_sums, .long 0])), (a_o_sums, .inl (cyJ, 100, .inr (.inl (fun _ => 0))))] := hD
  refine lv_aload_n hx hb dX0_init_12 rfl (lv_at hl 0 rfl) ?_
  refine lv_lconst (v := 0) hx hb dX0_init_13 (by decide) ?_
  refine va_put (D := (dC, dI)) (ci := 0) (v := .long 0) (ty := .long) (C := RX0) (T := TX0) (N := 4) hx hb hts hi0 tyX0 tyX0_ok nmX0 hown hK hP hD hS 0 rfl rfl 3 (by decide) hq6 (fun _ h9 => h9) rfl (by decide +kernel) rfl rfl (Nat.le_of_ble_eq_true rfl) dX0_init_14 (fun H locs hP hD hS => ?_)
  have hP : va_P (dC, dI) vwCl [(h_o, .inr (0, [.null, .null, .ref a_o_sums, .long 0])), (a_o_sums, .inl (cyJ, 100, .inr (.inl (fun _ => 0))))] H := hP
  have hD : va_D A [(h_o, .inr (0, [.null, .null, .ref a_o_sums, .long 0])), (a_o_sums, .inl (cyJ, 100, .inr (.inl (fun _ => 0))))] := hD
  refine lv_aload_n hx hb dX0_init_17 rfl (lv_at hl 0 rfl) ?_
  refine lv_aload_n hx hb dX0_init_18 rfl (lv_at hl 1 rfl) ?_
  refine va_putF (D := (dC, dI)) (ci := 0) (v := .ref h_told) (ty := (.object "SevenRings$Told")) (C := RX0) (T := TX0) (N := 4) hx hb hts hi0 tyX0 tyX0_ok nmX0 hown hK hP hD hS 0 rfl rfl 0 (by decide) hq7 (fun _ h9 => h9) rfl hin rfl (by decide +kernel) rfl rfl (Nat.le_of_ble_eq_true rfl) dX0_init_19 (fun H locs hP hD hS => ?_)
  have hP : va_P (dC, dI) vwCl [(h_o, .inr (0, [.ref h_told, .null, .ref a_o_sums, .long 0])), (a_o_sums, .inl (cyJ, 100, .inr (.inl (fun _ => 0))))] H := hP
  have hD : va_D A [(h_o, .inr (0, [.ref h_told, .null, .ref a_o_sums, .long 0])), (a_o_sums, .inl (cyJ, 100, .inr (.inl (fun _ => 0))))] := hD
  refine lv_aload_n hx hb dX0_init_22 rfl (lv_at hl 0 rfl) ?_
  refine lv_aload_n hx hb dX0_init_23 rfl (lv_at hl 2 rfl) ?_
  refine va_putF (D := (dC, dI)) (ci := 0) (v := .ref h_seas) (ty := (.object "SevenRings$Sea")) (C := RX0) (T := TX0) (N := 4) hx hb hts hi0 tyX0 tyX0_ok nmX0 hown hK hP hD hS 0 rfl rfl 1 (by decide) hq8 (fun _ h9 => h9) rfl hin rfl (by decide +kernel) rfl rfl (Nat.le_of_ble_eq_true rfl) dX0_init_24 (fun H locs hP hD hS => ?_)
  have hP : va_P (dC, dI) vwCl [(h_o, .inr (0, [.ref h_told, .ref h_seas, .ref a_o_sums, .long 0])), (a_o_sums, .inl (cyJ, 100, .inr (.inl (fun _ => 0))))] H := hP
  have hD : va_D A [(h_o, .inr (0, [.ref h_told, .ref h_seas, .ref a_o_sums, .long 0])), (a_o_sums, .inl (cyJ, 100, .inr (.inl (fun _ => 0))))] := hD
  have hP : va_P (dC, dI) vwCl [(h_o, .inr (0, [.ref h_told, .ref h_seas, .ref a_o_sums, .long 0])), (a_o_sums, .inl (cyJ, 100, .inr (.inl (fun _ => 0))))] H := hP.sub [0, 1] rfl
  have hD : va_D A [(h_o, .inr (0, [.ref h_told, .ref h_seas, .ref a_o_sums, .long 0])), (a_o_sums, .inl (cyJ, 100, .inr (.inl (fun _ => 0))))] := hD.sub [0, 1] (by decide +kernel) rfl
  rw [hQ]
  exact W.vret hx hb hr (fun t ht hW => ⟨⟨a_o_sums, rfl, trivial, by rw [ht]; exact hP, va_K.moved hW.alike hK, hD⟩, hS.F ht⟩) hS.2.2 dX0_init_27
