abbrev rm_X1_init : Room := { frames := 1, cells := 1, slots := 400, locals := 21 }
set_option maxRecDepth 100000 in
set_option maxHeartbeats 4000000 in
theorem c_X1_init (l : Launch) (dC : Nat → ClassId) (dI : Nat → Nat → Nat) (cyI cyJ cyO : ClassId) (sz : Nat) (h_o h_told : Nat) : Cn l (dC, dI) (tyL cyI cyJ cyO) yX1_init wsX1_init rm_X1_init [.ref h_o, .ref h_told] sz [(h_o, .inr (1, [.null, .null]))] zN 1 400 (fun _ : Nat => True) (fun u => [(h_o, .inr (1, [.ref h_told, .ref u])), (u, .inl (cyI, 400, .inl iKnown))]) := by
  refine Met.ofW (cc := cX1_init) (maxL := 2) (ret := none) (by decide) rfl ?_
  intro p e s m args below meth c s₁ B hml hv
  obtain ⟨rfl, hsz, hP, hK, hD0, hZ⟩ := hv
  have hx := B.exec
  have hb := B.bytes
  have hr := B.returns
  have hts := atoms_spec (ws := wsX1_init) B.pre
  have hown : s.vm.findClass RX1 = some m.cls := findClass_of_methodNamed B.named
  have hlocks := B.notSynchronized
  subst hsz
  have hD := hD0.self (sz := s.heap.size)
  generalize hAe : va_A [(h_o, .inr (1, [.null, .null]))] s.heap.size = A at hD hZ ⊢
  have hA : ∀ q : Nat, s.heap.size ≤ q → A q := fun q h => by rw [← hAe]; exact Or.inr h
  clear hAe hD0
  have hS : va_S A s.heap s.heap [] := va_S.rf
  have hl := lv_entry ([.ref h_o, .ref h_told]) (n := 2) (Nat.le_of_ble_eq_true rfl)
  rw [lg_entry_eq]
  generalize (lg_sl ([.ref h_o, .ref h_told]) ++ List.replicate (2 - (lg_sl ([.ref h_o, .ref h_told])).length) Slot.unset).toArray = ls at hl ⊢
  have hl : lv_has ls 2 [(0, .ref h_o), (1, .ref h_told)] := hl
  refine kW (fun Q hQ => ?_)
  have hP : va_P (dC, dI) vwCl [(h_o, .inr (1, [.null, .null]))] s.heap := hP
  obtain ⟨H, hH⟩ : ∃ H, H = s.heap := ⟨_, rfl⟩
  obtain ⟨locs, hlo⟩ : ∃ x : List Loc, x = [] := ⟨_, rfl⟩
  have hP : va_P (dC, dI) vwCl [(h_o, .inr (1, [.null, .null]))] H := by rw [hH]; exact hP
  have hS : va_S A s.heap H locs := by rw [hH, hlo]; exact hS
  refine kH hH hlo ?_
  clear hH hlo
  have hq0 := hts _ (List.mem_cons_of_mem _ q_192)
  have hq1 := hts _ (List.mem_cons_of_mem _ q_17)
  have hq2 := hts _ (List.mem_cons_of_mem _ q_18)
  have hq3 := hts _ (List.mem_cons_of_mem _ q_110)
  have hq4 := hts _ (List.mem_cons_of_mem _ q_198)
  have hi1 : ∀ w ∈ u_ws RX1 TX1 2, w ∈ wsX1_init := fun w h => List.mem_cons_of_mem _ (inX1 w h)
  have hq6 := hts _ (List.mem_cons_of_mem _ q_197)
  have hin : meth.name = "<init>" := (name_of_methodNamed B.named B.method).1
  refine lv_aload_n hx hb dX1_init_0 rfl (lv_at hl 0 rfl) ?_
  refine W.objInit hx hb hown hq0 hq1 hq2 rfl (by rw [hml]; exact hl.1) rfl dX1_init_1 (Nat.le_of_ble_eq_true rfl) (Nat.le_of_ble_eq_true rfl) ?_
  refine W.eq (g2 := F0 m 4 ls []) rfl ?_
  refine lv_aload_n hx hb dX1_init_4 rfl (lv_at hl 0 rfl) ?_
  refine lv_sipush (v := 400) hx hb dX1_init_5 (by decide) ?_
  refine kNewI (n := 400) (N := 400) hx hb hq3 hK hP hD hS hA (by decide) (by decide) (by decide) (Nat.le_of_ble_eq_true rfl) (Nat.le_of_ble_eq_true rfl) dX1_init_8 (fun a_o_known H hP hD hS => ?_)
  have hP : va_P (dC, dI) vwCl [(h_o, .inr (1, [.null, .null])), (a_o_known, .inl (cyI, 400, .inl (fun _ => 0)))] H := hP
  have hD : va_D A [(h_o, .inr (1, [.null, .null])), (a_o_known, .inl (cyI, 400, .inl (fun _ => 0)))] := hD
  refine W.widen (k := 1) (n := 400) (Nat.le_of_ble_eq_true rfl) (Nat.le_of_ble_eq_true rfl) ?_
  refine va_putF (D := (dC, dI)) (ci := 1) (v := .ref a_o_known) (ty := (.array .int)) (C := RX1) (T := TX1) (N := 2) hx hb hts hi1 tyX1 tyX1_ok nmX1 hown hK hP hD hS 0 rfl rfl 1 (by decide) hq4 (fun _ h9 => h9) rfl hin rfl (by decide +kernel) rfl rfl (Nat.le_of_ble_eq_true rfl) dX1_init_10 (fun H locs hP hD hS => ?_)
  have hP : va_P (dC, dI) vwCl [(h_o, .inr (1, [.null, .ref a_o_known])), (a_o_known, .inl (cyI, 400, .inl (fun _ => 0)))] H := hP
  have hD : va_D A [(h_o, .inr (1, [.null, .ref a_o_known])), (a_o_known, .inl (cyI, 400, .inl (fun _ => 0)))] := hD
  refine lv_aload_n hx hb dX1_init_13 rfl (lv_at hl 0 rfl) ?_
  refine lv_aload_n hx hb dX1_init_14 rfl (lv_at hl 1 rfl) ?_
  refine va_putF (D := (dC, dI)) (ci := 1) (v := .ref h_told) (ty := (.object "SevenRings$Told")) (C := RX1) (T := TX1) (N := 2) hx hb hts hi1 tyX1 tyX1_ok nmX1 hown hK hP hD hS 0 rfl rfl 0 (by decide) hq6 (fun _ h9 => h9) rfl hin rfl (by decide +kernel) rfl rfl (Nat.le_of_ble_eq_true rfl) dX1_init_15 (fun H locs hP hD hS => ?_)
  have hP : va_P (dC, dI) vwCl [(h_o, .inr (1, [.ref h_told, .ref a_o_known])), (a_o_known, .inl (cyI, 400, .inl (fun _ => 0)))] H := hP
  have hD : va_D A [(h_o, .inr (1, [.ref h_told, .ref a_o_known])), (a_o_known, .inl (cyI, 400, .inl (fun _ => 0)))] := hD
  have hP : va_P (dC, dI) vwCl (W_X1_initB cyI cyJ cyO h_o h_told a_o_known (fun _ => 0)) H := hP.sub [0, 1] rfl
  have hD : va_D A (W_X1_initB cyI cyJ cyO h_o h_told a_o_known (fun _ => 0)) := hD.sub [0, 1] (by decide +kernel) rfl
  obtain ⟨post, hpo⟩ : ∃ q : ((Nat → Int32)) → Prop, q = (fun u => u = iKnown) := ⟨_, rfl⟩
  have hw := t_X1_initB
  rw [← hpo] at hw
  unfold f_X1_initB at hw
  have hl := lv_sub hl [0] rfl
  refine lv_aload_n hx hb dX1_init_18 rfl (lv_at hl 0 rfl) ?_
  have hPc := hP.sub (ws' := (W_X1_forget cyI cyJ cyO h_o h_told a_o_known (fun _ => 0))) [0, 1] rfl
  have hDc := hD.sub (ws' := (W_X1_forget cyI cyJ cyO h_o h_told a_o_known (fun _ => 0))) [0, 1] (by decide +kernel) rfl
  have hFc := va_free (wc := (W_X1_forget cyI cyJ cyO h_o h_told a_o_known (fun _ => 0))) hD hS hA [0, 1] rfl
  refine kc_v (wr := []) (va_runV (As := []) (rest := []) ⟨hx, hb, hml, hown, hts⟩ (c_X1_forget l dC dI cyI cyJ cyO H.size h_o h_told a_o_known (fun _ => 0) _ (okb1 hw)) (cwV 0 hts (gdV (fun w h => List.mem_cons_of_mem _ h) q_193 q_194 q_195 q_4 q_196) rfl rfl rfl (by decide +kernel) ⟨Nat.le_of_ble_eq_true rfl, Nat.le_of_ble_eq_true rfl⟩) ⟨(kpre zN_ok hK hPc hDc trivial hS hFc).1, va_recv hK hP (ci := 1) (q0 := 0) rfl rfl, (kpre zN_ok hK hPc hDc trivial hS hFc).2⟩ rfl rfl hl.1 rfl (lv_room (Nat.le_of_ble_eq_true rfl)) dX1_init_19 ⟨Nat.le_of_ble_eq_true rfl, Nat.le_of_ble_eq_true rfl⟩) hP hD hS hFc [0, 1] [] rfl rfl (by decide +kernel) (by decide +kernel) (fun w_1001 H locs hw hP hD hS => ?_)
  try dsimp only at hw
  have hP : va_P (dC, dI) vwCl (W_X1_initB cyI cyJ cyO h_o h_told a_o_known w_1001) H := hP.sub [0, 1] rfl
  have hD : va_D A (W_X1_initB cyI cyJ cyO h_o h_told a_o_known w_1001) := hD.sub [0, 1] (by decide +kernel) rfl
  clear hPc hDc hFc
  have he := okS hw
  rw [hpo] at he
  rw [he] at hP hD
  rw [hQ]
  exact W.vret hx hb hr (fun t ht hW => ⟨⟨a_o_known, rfl, trivial, by rw [ht]; exact hP, va_K.moved hW.alike hK, hD⟩, hS.F ht⟩) hS.2.2 dX1_init_22
