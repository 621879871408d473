/-! ===== X5_begin ===== -/
theorem dX5_begin_0 : decode cX5_begin 0 = .ok (.aload_n 1, 1) := by decide +kernel
theorem dX5_begin_1 : decode cX5_begin 1 = .ok (.getfield 76, 3) := by decide +kernel
theorem dX5_begin_4 : decode cX5_begin 4 = .ok (.iconst 0, 1) := by decide +kernel
theorem dX5_begin_5 : decode cX5_begin 5 = .ok (.aload_n 0, 1) := by decide +kernel
theorem dX5_begin_6 : decode cX5_begin 6 = .ok (.getfield 9, 3) := by decide +kernel
theorem dX5_begin_9 : decode cX5_begin 9 = .ok (.iconst 0, 1) := by decide +kernel
theorem dX5_begin_10 : decode cX5_begin 10 = .ok (.bipush 7, 2) := by decide +kernel
theorem dX5_begin_12 : decode cX5_begin 12 = .ok (.invokestatic 79, 3) := by decide +kernel
theorem dX5_begin_15 : decode cX5_begin 15 = .ok (.aload_n 1, 1) := by decide +kernel
theorem dX5_begin_16 : decode cX5_begin 16 = .ok (.getfield 85, 3) := by decide +kernel
theorem dX5_begin_19 : decode cX5_begin 19 = .ok (.iconst 0, 1) := by decide +kernel
theorem dX5_begin_20 : decode cX5_begin 20 = .ok (.aload_n 0, 1) := by decide +kernel
theorem dX5_begin_21 : decode cX5_begin 21 = .ok (.getfield 15, 3) := by decide +kernel
theorem dX5_begin_24 : decode cX5_begin 24 = .ok (.iconst 0, 1) := by decide +kernel
theorem dX5_begin_25 : decode cX5_begin 25 = .ok (.bipush 7, 2) := by decide +kernel
theorem dX5_begin_27 : decode cX5_begin 27 = .ok (.invokestatic 79, 3) := by decide +kernel
theorem dX5_begin_30 : decode cX5_begin 30 = .ok (.aload_n 1, 1) := by decide +kernel
theorem dX5_begin_31 : decode cX5_begin 31 = .ok (.getfield 86, 3) := by decide +kernel
theorem dX5_begin_34 : decode cX5_begin 34 = .ok (.iconst 0, 1) := by decide +kernel
theorem dX5_begin_35 : decode cX5_begin 35 = .ok (.aload_n 0, 1) := by decide +kernel
theorem dX5_begin_36 : decode cX5_begin 36 = .ok (.getfield 21, 3) := by decide +kernel
theorem dX5_begin_39 : decode cX5_begin 39 = .ok (.iconst 0, 1) := by decide +kernel
theorem dX5_begin_40 : decode cX5_begin 40 = .ok (.bipush 100, 2) := by decide +kernel
theorem dX5_begin_42 : decode cX5_begin 42 = .ok (.invokestatic 79, 3) := by decide +kernel
theorem dX5_begin_45 : decode cX5_begin 45 = .ok (.iconst 0, 1) := by decide +kernel
theorem dX5_begin_46 : decode cX5_begin 46 = .ok (.istore_n 2, 1) := by decide +kernel
theorem dX5_begin_47 : decode cX5_begin 47 = .ok (.iload_n 2, 1) := by decide +kernel
theorem dX5_begin_48 : decode cX5_begin 48 = .ok (.bipush 6, 2) := by decide +kernel
theorem dX5_begin_50 : decode cX5_begin 50 = .ok (.if_icmp .gt 16, 3) := by decide +kernel
theorem dX5_begin_53 : decode cX5_begin 53 = .ok (.aload_n 0, 1) := by decide +kernel
theorem dX5_begin_54 : decode cX5_begin 54 = .ok (.getfield 18, 3) := by decide +kernel
theorem dX5_begin_57 : decode cX5_begin 57 = .ok (.iload_n 2, 1) := by decide +kernel
theorem dX5_begin_58 : decode cX5_begin 58 = .ok (.iconst (-1), 1) := by decide +kernel
theorem dX5_begin_59 : decode cX5_begin 59 = .ok (.iastore, 1) := by decide +kernel
theorem dX5_begin_60 : decode cX5_begin 60 = .ok (.iinc 2 1, 3) := by decide +kernel
theorem dX5_begin_63 : decode cX5_begin 63 = .ok (.goto (-16), 3) := by decide +kernel
theorem dX5_begin_66 : decode cX5_begin 66 = .ok (.aload_n 0, 1) := by decide +kernel
theorem dX5_begin_67 : decode cX5_begin 67 = .ok (.getfield 41, 3) := by decide +kernel
theorem dX5_begin_70 : decode cX5_begin 70 = .ok (.iconst 0, 1) := by decide +kernel
theorem dX5_begin_71 : decode cX5_begin 71 = .ok (.aload_n 1, 1) := by decide +kernel
theorem dX5_begin_72 : decode cX5_begin 72 = .ok (.getfield 87, 3) := by decide +kernel
theorem dX5_begin_75 : decode cX5_begin 75 = .ok (.iconst 1, 1) := by decide +kernel
theorem dX5_begin_76 : decode cX5_begin 76 = .ok (.iaload, 1) := by decide +kernel
theorem dX5_begin_77 : decode cX5_begin 77 = .ok (.iastore, 1) := by decide +kernel
theorem dX5_begin_78 : decode cX5_begin 78 = .ok (.aload_n 0, 1) := by decide +kernel
theorem dX5_begin_79 : decode cX5_begin 79 = .ok (.aload_n 1, 1) := by decide +kernel
theorem dX5_begin_80 : decode cX5_begin 80 = .ok (.getfield 87, 3) := by decide +kernel
theorem dX5_begin_83 : decode cX5_begin 83 = .ok (.iconst 2, 1) := by decide +kernel
theorem dX5_begin_84 : decode cX5_begin 84 = .ok (.iaload, 1) := by decide +kernel
theorem dX5_begin_85 : decode cX5_begin 85 = .ok (.putfield 24, 3) := by decide +kernel
theorem dX5_begin_88 : decode cX5_begin 88 = .ok (.aload_n 0, 1) := by decide +kernel
theorem dX5_begin_89 : decode cX5_begin 89 = .ok (.aload_n 1, 1) := by decide +kernel
theorem dX5_begin_90 : decode cX5_begin 90 = .ok (.getfield 87, 3) := by decide +kernel
theorem dX5_begin_93 : decode cX5_begin 93 = .ok (.iconst 3, 1) := by decide +kernel
theorem dX5_begin_94 : decode cX5_begin 94 = .ok (.iaload, 1) := by decide +kernel
theorem dX5_begin_95 : decode cX5_begin 95 = .ok (.putfield 28, 3) := by decide +kernel
theorem dX5_begin_98 : decode cX5_begin 98 = .ok (.aload_n 0, 1) := by decide +kernel
theorem dX5_begin_99 : decode cX5_begin 99 = .ok (.aload_n 1, 1) := by decide +kernel
theorem dX5_begin_100 : decode cX5_begin 100 = .ok (.getfield 87, 3) := by decide +kernel
theorem dX5_begin_103 : decode cX5_begin 103 = .ok (.iconst 4, 1) := by decide +kernel
theorem dX5_begin_104 : decode cX5_begin 104 = .ok (.iaload, 1) := by decide +kernel
theorem dX5_begin_105 : decode cX5_begin 105 = .ok (.iconst 1, 1) := by decide +kernel
theorem dX5_begin_106 : decode cX5_begin 106 = .ok (.if_icmp .ne 7, 3) := by decide +kernel
theorem dX5_begin_109 : decode cX5_begin 109 = .ok (.iconst 1, 1) := by decide +kernel
theorem dX5_begin_110 : decode cX5_begin 110 = .ok (.goto 4, 3) := by decide +kernel
theorem dX5_begin_113 : decode cX5_begin 113 = .ok (.iconst 0, 1) := by decide +kernel
theorem dX5_begin_114 : decode cX5_begin 114 = .ok (.putfield 31, 3) := by decide +kernel
theorem dX5_begin_117 : decode cX5_begin 117 = .ok (.aload_n 0, 1) := by decide +kernel
theorem dX5_begin_118 : decode cX5_begin 118 = .ok (.aload_n 1, 1) := by decide +kernel
theorem dX5_begin_119 : decode cX5_begin 119 = .ok (.getfield 87, 3) := by decide +kernel
theorem dX5_begin_122 : decode cX5_begin 122 = .ok (.iconst 5, 1) := by decide +kernel
theorem dX5_begin_123 : decode cX5_begin 123 = .ok (.iaload, 1) := by decide +kernel
theorem dX5_begin_124 : decode cX5_begin 124 = .ok (.putfield 35, 3) := by decide +kernel
theorem dX5_begin_127 : decode cX5_begin 127 = .ok (.aload_n 0, 1) := by decide +kernel
theorem dX5_begin_128 : decode cX5_begin 128 = .ok (.aload_n 1, 1) := by decide +kernel
theorem dX5_begin_129 : decode cX5_begin 129 = .ok (.getfield 87, 3) := by decide +kernel
theorem dX5_begin_132 : decode cX5_begin 132 = .ok (.bipush 6, 2) := by decide +kernel
theorem dX5_begin_134 : decode cX5_begin 134 = .ok (.iaload, 1) := by decide +kernel
theorem dX5_begin_135 : decode cX5_begin 135 = .ok (.putfield 38, 3) := by decide +kernel
theorem dX5_begin_138 : decode cX5_begin 138 = .ok (.return_, 1) := by decide +kernel
abbrev W_X5_begin (cyI cyJ cyO : ClassId) (h_o h_p1 a_o_howFar a_o_tones a_o_only a_o_fars a_o_cellAt a_o_ends a_o_seen a_o_begun a_p1_settings a_p1_howFar a_p1_tones a_p1_currents a_p1_warmths a_p1_depths a_p1_fars a_p1_pieceCells a_p1_pieceMonths a_p1_pieceHighs a_p1_pieceAges a_p1_pieceNeeds a_p1_dragCells a_p1_dragEighths : Nat) (o_last : Int32) (o_turnsLet : Int32) (o_slowsLet : Int32) (o_fuel : Int32) (o_glide : Int32) (o_count : Int32) (o_weightSum : Int64) (o_toPass : Int32) (o_foundNumber : Int32) (o_foundWeight : Int32) (o_foundTurns : Int32) (o_foundSlowed : Int32) (o_howFar : Nat → Int32) (o_tones : Nat → Int32) (o_only : Nat → Int32) (o_fars : Nat → Int32) (o_cellAt : Nat → Int32) (p1_pieceCount : Int32) (p1_dragCount : Int32) (p1_settings : Nat → Int32) (p1_howFar : Nat → Int32) (p1_tones : Nat → Int32) (p1_fars : Nat → Int32) : va_W := [(h_o, .inr (5, [.ref a_o_howFar, .ref a_o_tones, .ref a_o_only, .ref a_o_fars, .int o_last, .int o_turnsLet, .int o_slowsLet, .int o_fuel, .int o_glide, .ref a_o_cellAt, .ref a_o_ends, .ref a_o_seen, .ref a_o_begun, .int o_count, .long o_weightSum, .int o_toPass, .int o_foundNumber, .int o_foundWeight, .int o_foundTurns, .int o_foundSlowed])), (a_o_howFar, .inl (cyI, 7, .inl o_howFar)), (a_o_tones, .inl (cyI, 7, .inl o_tones)), (a_o_only, .inl (cyI, 7, .inl o_only)), (a_o_fars, .inl (cyI, 100, .inl o_fars)), (a_o_cellAt, .inl (cyI, 7, .inl o_cellAt)), (h_p1, .inr (4, [.ref a_p1_settings, .ref a_p1_howFar, .ref a_p1_tones, .ref a_p1_currents, .ref a_p1_warmths, .ref a_p1_depths, .ref a_p1_fars, .ref a_p1_pieceCells, .ref a_p1_pieceMonths, .ref a_p1_pieceHighs, .ref a_p1_pieceAges, .ref a_p1_pieceNeeds, .ref a_p1_dragCells, .ref a_p1_dragEighths, .int p1_pieceCount, .int p1_dragCount])), (a_p1_settings, .inl (cyI, 8, .inl p1_settings)), (a_p1_howFar, .inl (cyI, 7, .inl p1_howFar)), (a_p1_tones, .inl (cyI, 7, .inl p1_tones)), (a_p1_fars, .inl (cyI, 100, .inl p1_fars))]
def f_X5_begin_B114 (y0 : Int32) (o_last : Int32) (o_turnsLet : Int32) (o_slowsLet : Int32) (o_fuel : Int32) (o_glide : Int32) (o_howFar : Nat → Int32) (o_tones : Nat → Int32) (o_only : Nat → Int32) (o_fars : Nat → Int32) (o_cellAt : Nat → Int32) (p1_settings : Nat → Int32) (p1_howFar : Nat → Int32) (p1_tones : Nat → Int32) (p1_fars : Nat → Int32) : Option (Int32 × Int32 × Int32 × Int32 × Int32 × (Nat → Int32) × (Nat → Int32) × (Nat → Int32) × (Nat → Int32) × (Nat → Int32)) :=
  chk (y0 = 0 ∨ y0 = 1) <|
  nm (p1_settings 5) fun x_1 =>
  nm (p1_settings 6) fun x_2 =>
  some (o_last, o_turnsLet, y0, x_1, x_2, o_howFar, o_tones, o_only, o_fars, o_cellAt)
def f_X5_begin_L47b (k47 : Int32 → Int32 → Int32 → Int32 → Int32 → Int32 → (Nat → Int32) → (Nat → Int32) → (Nat → Int32) → (Nat → Int32) → (Nat → Int32) → (Nat → Int32) → (Nat → Int32) → (Nat → Int32) → (Nat → Int32) → Option (Int32 × Int32 × Int32 × Int32 × Int32 × (Nat → Int32) × (Nat → Int32) × (Nat → Int32) × (Nat → Int32) × (Nat → Int32))) (v2 : Int32) (o_last : Int32) (o_turnsLet : Int32) (o_slowsLet : Int32) (o_fuel : Int32) (o_glide : Int32) (o_howFar : Nat → Int32) (o_tones : Nat → Int32) (o_only : Nat → Int32) (o_fars : Nat → Int32) (o_cellAt : Nat → Int32) (p1_settings : Nat → Int32) (p1_howFar : Nat → Int32) (p1_tones : Nat → Int32) (p1_fars : Nat → Int32) : Option (Int32 × Int32 × Int32 × Int32 × Int32 × (Nat → Int32) × (Nat → Int32) × (Nat → Int32) × (Nat → Int32) × (Nat → Int32)) :=
  if 6 < v2 then
    nm (p1_settings 1) fun x_3 =>
    nm (p1_settings 2) fun x_4 =>
    nm (p1_settings 3) fun x_5 =>
    if (p1_settings 4) = 1 then
      f_X5_begin_B114 1 x_4 x_5 o_slowsLet o_fuel o_glide o_howFar o_tones o_only o_fars (upd o_cellAt 0 x_3) p1_settings p1_howFar p1_tones p1_fars
    else
      f_X5_begin_B114 0 x_4 x_5 o_slowsLet o_fuel o_glide o_howFar o_tones o_only o_fars (upd o_cellAt 0 x_3) p1_settings p1_howFar p1_tones p1_fars
  else
    chk (¬ (v2 < 0 ∨ 7 ≤ v2.toNatClampNeg)) <|
    nm (v2 + 1) fun x_6 =>
    k47 x_6 o_last o_turnsLet o_slowsLet o_fuel o_glide o_howFar o_tones (upd o_only v2.toNatClampNeg (-1)) o_fars o_cellAt p1_settings p1_howFar p1_tones p1_fars
def f_X5_begin_L47 : Nat → Int32 → Int32 → Int32 → Int32 → Int32 → Int32 → (Nat → Int32) → (Nat → Int32) → (Nat → Int32) → (Nat → Int32) → (Nat → Int32) → (Nat → Int32) → (Nat → Int32) → (Nat → Int32) → (Nat → Int32) → Option (Int32 × Int32 × Int32 × Int32 × Int32 × (Nat → Int32) × (Nat → Int32) × (Nat → Int32) × (Nat → Int32) × (Nat → Int32))
  | 0 => fun _ _ _ _ _ _ _ _ _ _ _ _ _ _ _ => none
  | n + 1 => f_X5_begin_L47b (f_X5_begin_L47 n)
def f_X5_begin (o_last : Int32) (o_turnsLet : Int32) (o_slowsLet : Int32) (o_fuel : Int32) (o_glide : Int32) (o_howFar : Nat → Int32) (o_tones : Nat → Int32) (o_only : Nat → Int32) (o_fars : Nat → Int32) (o_cellAt : Nat → Int32) (p1_settings : Nat → Int32) (p1_howFar : Nat → Int32) (p1_tones : Nat → Int32) (p1_fars : Nat → Int32) : Option (Int32 × Int32 × Int32 × Int32 × Int32 × (Nat → Int32) × (Nat → Int32) × (Nat → Int32) × (Nat → Int32) × (Nat → Int32)) :=
  f_X5_begin_L47 FU 0 o_last o_turnsLet o_slowsLet o_fuel o_glide (va_cpy p1_howFar o_howFar 0 0 7) (va_cpy p1_tones o_tones 0 0 7) o_only (va_cpy p1_fars o_fars 0 0 100) o_cellAt p1_settings p1_howFar p1_tones p1_fars
abbrev rm_X5_begin : Room := { frames := 1, cells := 0, slots := 0, locals := 26 }
set_option maxRecDepth 100000 in
set_option maxHeartbeats 4000000 in
theorem c_X5_begin (l : Launch) (dC : Nat → ClassId) (dI : Nat → Nat → Nat) (cyI cyJ cyO : ClassId) (sz : Nat) (h_o h_p1 a_o_howFar a_o_tones a_o_only a_o_fars a_o_cellAt a_o_ends a_o_seen a_o_begun a_p1_settings a_p1_howFar a_p1_tones a_p1_currents a_p1_warmths a_p1_depths a_p1_fars a_p1_pieceCells a_p1_pieceMonths a_p1_pieceHighs a_p1_pieceAges a_p1_pieceNeeds a_p1_dragCells a_p1_dragEighths : Nat) (o_last : Int32) (o_turnsLet : Int32) (o_slowsLet : Int32) (o_fuel : Int32) (o_glide : Int32) (o_count : Int32) (o_weightSum : Int64) (o_toPass : Int32) (o_foundNumber : Int32) (o_foundWeight : Int32) (o_foundTurns : Int32) (o_foundSlowed : Int32) (o_howFar : Nat → Int32) (o_tones : Nat → Int32) (o_only : Nat → Int32) (o_fars : Nat → Int32) (o_cellAt : Nat → Int32) (p1_pieceCount : Int32) (p1_dragCount : Int32) (p1_settings : Nat → Int32) (p1_howFar : Nat → Int32) (p1_tones : Nat → Int32) (p1_fars : Nat → Int32) (post : (Int32 × Int32 × Int32 × Int32 × Int32 × (Nat → Int32) × (Nat → Int32) × (Nat → Int32) × (Nat → Int32) × (Nat → Int32)) → Prop) (hf : okP (f_X5_begin o_last o_turnsLet o_slowsLet o_fuel o_glide o_howFar o_tones o_only o_fars o_cellAt p1_settings p1_howFar p1_tones p1_fars) post) : Cv l (dC, dI) (tyL cyI cyJ cyO) yX5_begin wsX5_begin rm_X5_begin [.ref h_o, .ref h_p1] sz (W_X5_begin cyI cyJ cyO h_o h_p1 a_o_howFar a_o_tones a_o_only a_o_fars a_o_cellAt a_o_ends a_o_seen a_o_begun a_p1_settings a_p1_howFar a_p1_tones a_p1_currents a_p1_warmths a_p1_depths a_p1_fars a_p1_pieceCells a_p1_pieceMonths a_p1_pieceHighs a_p1_pieceAges a_p1_pieceNeeds a_p1_dragCells a_p1_dragEighths o_last o_turnsLet o_slowsLet o_fuel o_glide o_count o_weightSum o_toPass o_foundNumber o_foundWeight o_foundTurns o_foundSlowed o_howFar o_tones o_only o_fars o_cellAt p1_pieceCount p1_dragCount p1_settings p1_howFar p1_tones p1_fars) zN (fun u => post u) (fun u => (W_X5_begin cyI cyJ cyO h_o h_p1 a_o_howFar a_o_tones a_o_only a_o_fars a_o_cellAt a_o_ends a_o_seen a_o_begun a_p1_settings a_p1_howFar a_p1_tones a_p1_currents a_p1_warmths a_p1_depths a_p1_fars a_p1_pieceCells a_p1_pieceMonths a_p1_pieceHighs a_p1_pieceAges a_p1_pieceNeeds a_p1_dragCells a_p1_dragEighths u.1 u.2.1 u.2.2.1 u.2.2.2.1 u.2.2.2.2.1 o_count o_weightSum o_toPass o_foundNumber o_foundWeight o_foundTurns o_foundSlowed u.2.2.2.2.2.1 u.2.2.2.2.2.2.1 u.2.2.2.2.2.2.2.1 u.2.2.2.2.2.2.2.2.1 u.2.2.2.2.2.2.2.2.2 p1_pieceCount p1_dragCount p1_settings p1_howFar p1_tones p1_fars)) := by
  refine Met.ofW (cc := cX5_begin) (maxL := 3) (ret := none) (by decide) rfl ?_
  intro p e s m args below meth c s₁ B hml hv
  obtain ⟨rfl, hsz, hP, hK, hD0, hZ⟩ := hv
  have hx := B.exec
  have hb := B.bytes
  have hr := B.returns
  have hts := atoms_spec (ws := wsX5_begin) B.pre
  have hown : s.vm.findClass RX5 = some m.cls := findClass_of_methodNamed B.named
  have hlocks := B.notSynchronized
  subst hsz
  have hD := hD0.self (sz := s.heap.size)
  generalize hAe : va_A (W_X5_begin cyI cyJ cyO h_o h_p1 a_o_howFar a_o_tones a_o_only a_o_fars a_o_cellAt a_o_ends a_o_seen a_o_begun a_p1_settings a_p1_howFar a_p1_tones a_p1_currents a_p1_warmths a_p1_depths a_p1_fars a_p1_pieceCells a_p1_pieceMonths a_p1_pieceHighs a_p1_pieceAges a_p1_pieceNeeds a_p1_dragCells a_p1_dragEighths o_last o_turnsLet o_slowsLet o_fuel o_glide o_count o_weightSum o_toPass o_foundNumber o_foundWeight o_foundTurns o_foundSlowed o_howFar o_tones o_only o_fars o_cellAt p1_pieceCount p1_dragCount p1_settings p1_howFar p1_tones p1_fars) s.heap.size = A at hD hZ ⊢
  have hA : ∀ q : Nat, s.heap.size ≤ q → A q := fun q h => by rw [← hAe]; exact Or.inr h
  clear hAe hD0
  have hS : va_S A s.heap s.heap [] := va_S.rf
  have hl := lv_entry ([.ref h_o, .ref h_p1]) (n := 3) (Nat.le_of_ble_eq_true rfl)
  rw [lg_entry_eq]
  generalize (lg_sl ([.ref h_o, .ref h_p1]) ++ List.replicate (3 - (lg_sl ([.ref h_o, .ref h_p1])).length) Slot.unset).toArray = ls at hl ⊢
  have hl : lv_has ls 3 [(0, .ref h_o), (1, .ref h_p1)] := hl
  refine kW (fun Q hQ => ?_)
  have hq0 := hts _ (List.mem_cons_of_mem _ q_123)
  have hi5 : ∀ w ∈ u_ws RX5 TX5 20, w ∈ wsX5_begin := fun w h => List.mem_cons_of_mem _ (inX5 w h)
  have hq2 := hts _ (List.mem_cons_of_mem _ q_34)
  have hi4 : ∀ w ∈ u_ws RX4 TX4 16, w ∈ wsX5_begin := fun w h => List.mem_cons_of_mem _ (inX4 w h)
  have hq4 := hts _ (List.mem_cons_of_mem _ q_124)
  have hq5 := hts _ (List.mem_cons_of_mem _ q_125)
  have hq6 := hts _ (List.mem_cons_of_mem _ q_126)
  have hq7 := hts _ (List.mem_cons_of_mem _ q_121)
  have hq8 := hts _ (List.mem_cons_of_mem _ q_122)
  have hq9 := hts _ (List.mem_cons_of_mem _ q_119)
  have hq10 := hts _ (List.mem_cons_of_mem _ q_37)
  have hq11 := hts _ (List.mem_cons_of_mem _ q_117)
  have hq12 := hts _ (List.mem_cons_of_mem _ q_405)
  have hq13 := hts _ (List.mem_cons_of_mem _ q_407)
  have hq14 := hts _ (List.mem_cons_of_mem _ q_406)
  have hq15 := hts _ (List.mem_cons_of_mem _ q_10)
  have hq16 := hts _ (List.mem_cons_of_mem _ q_40)
  have hq17 := hts _ (List.mem_cons_of_mem _ q_118)
  have hq18 := hts _ (List.mem_cons_of_mem _ q_51)
  have hq19 := hts _ (List.mem_cons_of_mem _ q_120)
  have hw := hf
  have w114 : ∀ (y0 : Int32) (o_last : Int32) (o_turnsLet : Int32) (o_slowsLet : Int32) (o_fuel : Int32) (o_glide : Int32) (o_howFar : Nat → Int32) (o_tones : Nat → Int32) (o_only : Nat → Int32) (o_fars : Nat → Int32) (o_cellAt : Nat → Int32) (H : Heap) (locs : List Loc), va_P (dC, dI) vwCl (W_X5_begin cyI cyJ cyO h_o h_p1 a_o_howFar a_o_tones a_o_only a_o_fars a_o_cellAt a_o_ends a_o_seen a_o_begun a_p1_settings a_p1_howFar a_p1_tones a_p1_currents a_p1_warmths a_p1_depths a_p1_fars a_p1_pieceCells a_p1_pieceMonths a_p1_pieceHighs a_p1_pieceAges a_p1_pieceNeeds a_p1_dragCells a_p1_dragEighths o_last o_turnsLet o_slowsLet o_fuel o_glide o_count o_weightSum o_toPass o_foundNumber o_foundWeight o_foundTurns o_foundSlowed o_howFar o_tones o_only o_fars o_cellAt p1_pieceCount p1_dragCount p1_settings p1_howFar p1_tones p1_fars) H → va_D A (W_X5_begin cyI cyJ cyO h_o h_p1 a_o_howFar a_o_tones a_o_only a_o_fars a_o_cellAt a_o_ends a_o_seen a_o_begun a_p1_settings a_p1_howFar a_p1_tones a_p1_currents a_p1_warmths a_p1_depths a_p1_fars a_p1_pieceCells a_p1_pieceMonths a_p1_pieceHighs a_p1_pieceAges a_p1_pieceNeeds a_p1_dragCells a_p1_dragEighths o_last o_turnsLet o_slowsLet o_fuel o_glide o_count o_weightSum o_toPass o_foundNumber o_foundWeight o_foundTurns o_foundSlowed o_howFar o_tones o_only o_fars o_cellAt p1_pieceCount p1_dragCount p1_settings p1_howFar p1_tones p1_fars) → va_S A s.heap H locs → ∀ (ls : Array Slot), lv_has ls 3 [(0, .ref h_o), (1, .ref h_p1)] → okP (f_X5_begin_B114 y0 o_last o_turnsLet o_slowsLet o_fuel o_glide o_howFar o_tones o_only o_fars o_cellAt p1_settings p1_howFar p1_tones p1_fars) post → W p l e (headSpec wsX5_begin rm_X5_begin).room s m ([.ref h_o, .ref h_p1] : List Value).toArray below meth c H locs 0 0 Q (F0 m 114 ls [.int y0, .ref h_o]) := by
    intro y0 o_last o_turnsLet o_slowsLet o_fuel o_glide o_howFar o_tones o_only o_fars o_cellAt H locs hP hD hS ls hl hw
    unfold f_X5_begin_B114 at hw
    obtain ⟨h_1, hw⟩ := okC hw
    refine va_put (D := (dC, dI)) (ci := 5) (v := .int y0) (ty := .boolean) (C := RX5) (T := TX5) (N := 20) hx hb hts hi5 tyX5 tyX5_ok nmX5 hown hK hP hD hS 0 rfl rfl 6 (by decide) hq0 (fun _ h9 => h9) rfl (by decide +kernel) (nbZ h_1) (ftZ h_1) (Nat.le_of_ble_eq_true rfl) dX5_begin_114 (fun H locs hP hD hS => ?_)
    have hP : va_P (dC, dI) vwCl (W_X5_begin cyI cyJ cyO h_o h_p1 a_o_howFar a_o_tones a_o_only a_o_fars a_o_cellAt a_o_ends a_o_seen a_o_begun a_p1_settings a_p1_howFar a_p1_tones a_p1_currents a_p1_warmths a_p1_depths a_p1_fars a_p1_pieceCells a_p1_pieceMonths a_p1_pieceHighs a_p1_pieceAges a_p1_pieceNeeds a_p1_dragCells a_p1_dragEighths o_last o_turnsLet y0 o_fuel o_glide o_count o_weightSum o_toPass o_foundNumber o_foundWeight o_foundTurns o_foundSlowed o_howFar o_tones o_only o_fars o_cellAt p1_pieceCount p1_dragCount p1_settings p1_howFar p1_tones p1_fars) H := hP
    have hD : va_D A (W_X5_begin cyI cyJ cyO h_o h_p1 a_o_howFar a_o_tones a_o_only a_o_fars a_o_cellAt a_o_ends a_o_seen a_o_begun a_p1_settings a_p1_howFar a_p1_tones a_p1_currents a_p1_warmths a_p1_depths a_p1_fars a_p1_pieceCells a_p1_pieceMonths a_p1_pieceHighs a_p1_pieceAges a_p1_pieceNeeds a_p1_dragCells a_p1_dragEighths o_last o_turnsLet y0 o_fuel o_glide o_count o_weightSum o_toPass o_foundNumber o_foundWeight o_foundTurns o_foundSlowed o_howFar o_tones o_only o_fars o_cellAt p1_pieceCount p1_dragCount p1_settings p1_howFar p1_tones p1_fars) := hD
    refine lv_aload_n hx hb dX5_begin_117 rfl (lv_at hl 0 rfl) ?_
    refine lv_aload_n hx hb dX5_begin_118 rfl (lv_at hl 1 rfl) ?_
    refine va_get (D := (dC, dI)) (ci := 4) (v := .ref a_p1_settings) (C := RX4) (T := TX4) (N := 16) hx hb hts hi4 hown hK hP 6 rfl rfl 0 (by decide) hq2 (fun _ h9 => h9) rfl dX5_begin_119 ?_
    refine lv_iconst (v := 5) hx hb dX5_begin_122 (by decide) ?_
    refine va_iald (i := 5) hx hb hK hP 7 0 rfl rfl (show ¬ _ by decide) dX5_begin_123 ?_
    refine lv_topi (fun x_2 ex_2 => ?_)
    replace hw := okN ex_2 hw
    clear ex_2
    refine va_put (D := (dC, dI)) (ci := 5) (v := .int x_2) (ty := .int) (C := RX5) (T := TX5) (N := 20) hx hb hts hi5 tyX5 tyX5_ok nmX5 hown hK hP hD hS 0 rfl rfl 7 (by decide) hq4 (fun _ h9 => h9) rfl (by decide +kernel) rfl rfl (Nat.le_of_ble_eq_true rfl) dX5_begin_124 (fun H locs hP hD hS => ?_)
    have hP : va_P (dC, dI) vwCl (W_X5_begin cyI cyJ cyO h_o h_p1 a_o_howFar a_o_tones a_o_only a_o_fars a_o_cellAt a_o_ends a_o_seen a_o_begun a_p1_settings a_p1_howFar a_p1_tones a_p1_currents a_p1_warmths a_p1_depths a_p1_fars a_p1_pieceCells a_p1_pieceMonths a_p1_pieceHighs a_p1_pieceAges a_p1_pieceNeeds a_p1_dragCells a_p1_dragEighths o_last o_turnsLet y0 x_2 o_glide o_count o_weightSum o_toPass o_foundNumber o_foundWeight o_foundTurns o_foundSlowed o_howFar o_tones o_only o_fars o_cellAt p1_pieceCount p1_dragCount p1_settings p1_howFar p1_tones p1_fars) H := hP
    have hD : va_D A (W_X5_begin cyI cyJ cyO h_o h_p1 a_o_howFar a_o_tones a_o_only a_o_fars a_o_cellAt a_o_ends a_o_seen a_o_begun a_p1_settings a_p1_howFar a_p1_tones a_p1_currents a_p1_warmths a_p1_depths a_p1_fars a_p1_pieceCells a_p1_pieceMonths a_p1_pieceHighs a_p1_pieceAges a_p1_pieceNeeds a_p1_dragCells a_p1_dragEighths o_last o_turnsLet y0 x_2 o_glide o_count o_weightSum o_toPass o_foundNumber o_foundWeight o_foundTurns o_foundSlowed o_howFar o_tones o_only o_fars o_cellAt p1_pieceCount p1_dragCount p1_settings p1_howFar p1_tones p1_fars) := hD
    refine lv_aload_n hx hb dX5_begin_127 rfl (lv_at hl 0 rfl) ?_
    refine lv_aload_n hx hb dX5_begin_128 rfl (lv_at hl 1 rfl) ?_
    refine va_get (D := (dC, dI)) (ci := 4) (v := .ref a_p1_settings) (C := RX4) (T := TX4) (N := 16) hx hb hts hi4 hown hK hP 6 rfl rfl 0 (by decide) hq2 (fun _ h9 => h9) rfl dX5_begin_129 ?_
    refine lv_bipush (v := 6) hx hb dX5_begin_132 (by decide) ?_
    refine va_iald (i := 6) hx hb hK hP 7 0 rfl rfl (show ¬ _ by decide) dX5_begin_134 ?_
    refine lv_topi (fun x_3 ex_3 => ?_)
    replace hw := okN ex_3 hw
    clear ex_3
    refine va_put (D := (dC, dI)) (ci := 5) (v := .int x_3) (ty := .int) (C := RX5) (T := TX5) (N := 20) hx hb hts hi5 tyX5 tyX5_ok nmX5 hown hK hP hD hS 0 rfl rfl 8 (by decide) hq5 (fun _ h9 => h9) rfl (by decide +kernel) rfl rfl (Nat.le_of_ble_eq_true rfl) dX5_begin_135 (fun H locs hP hD hS => ?_)
    have hP : va_P (dC, dI) vwCl (W_X5_begin cyI cyJ cyO h_o h_p1 a_o_howFar a_o_tones a_o_only a_o_fars a_o_cellAt a_o_ends a_o_seen a_o_begun a_p1_settings a_p1_howFar a_p1_tones a_p1_currents a_p1_warmths a_p1_depths a_p1_fars a_p1_pieceCells a_p1_pieceMonths a_p1_pieceHighs a_p1_pieceAges a_p1_pieceNeeds a_p1_dragCells a_p1_dragEighths o_last o_turnsLet y0 x_2 x_3 o_count o_weightSum o_toPass o_foundNumber o_foundWeight o_foundTurns o_foundSlowed o_howFar o_tones o_only o_fars o_cellAt p1_pieceCount p1_dragCount p1_settings p1_howFar p1_tones p1_fars) H := hP
    have hD : va_D A (W_X5_begin cyI cyJ cyO h_o h_p1 a_o_howFar a_o_tones a_o_only a_o_fars a_o_cellAt a_o_ends a_o_seen a_o_begun a_p1_settings a_p1_howFar a_p1_tones a_p1_currents a_p1_warmths a_p1_depths a_p1_fars a_p1_pieceCells a_p1_pieceMonths a_p1_pieceHighs a_p1_pieceAges a_p1_pieceNeeds a_p1_dragCells a_p1_dragEighths o_last o_turnsLet y0 x_2 x_3 o_count o_weightSum o_toPass o_foundNumber o_foundWeight o_foundTurns o_foundSlowed o_howFar o_tones o_only o_fars o_cellAt p1_pieceCount p1_dragCount p1_settings p1_howFar p1_tones p1_fars) := hD
    rw [hQ]
    exact W.vret hx hb hr (fun t ht hW => ⟨⟨(o_last, o_turnsLet, y0, x_2, x_3, o_howFar, o_tones, o_only, o_fars, o_cellAt), rfl, okS hw, by rw [ht]; exact hP, va_K.moved hW.alike hK, hD⟩, hS.F ht⟩) hS.2.2 dX5_begin_138
  have w47 : ∀ (n : Nat), ∀ (v2 : Int32) (o_last : Int32) (o_turnsLet : Int32) (o_slowsLet : Int32) (o_fuel : Int32) (o_glide : Int32) (o_howFar : Nat → Int32) (o_tones : Nat → Int32) (o_only : Nat → Int32) (o_fars : Nat → Int32) (o_cellAt : Nat → Int32) (H : Heap) (locs : List Loc), va_P (dC, dI) vwCl (W_X5_begin cyI cyJ cyO h_o h_p1 a_o_howFar a_o_tones a_o_only a_o_fars a_o_cellAt a_o_ends a_o_seen a_o_begun a_p1_settings a_p1_howFar a_p1_tones a_p1_currents a_p1_warmths a_p1_depths a_p1_fars a_p1_pieceCells a_p1_pieceMonths a_p1_pieceHighs a_p1_pieceAges a_p1_pieceNeeds a_p1_dragCells a_p1_dragEighths o_last o_turnsLet o_slowsLet o_fuel o_glide o_count o_weightSum o_toPass o_foundNumber o_foundWeight o_foundTurns o_foundSlowed o_howFar o_tones o_only o_fars o_cellAt p1_pieceCount p1_dragCount p1_settings p1_howFar p1_tones p1_fars) H → va_D A (W_X5_begin cyI cyJ cyO h_o h_p1 a_o_howFar a_o_tones a_o_only a_o_fars a_o_cellAt a_o_ends a_o_seen a_o_begun a_p1_settings a_p1_howFar a_p1_tones a_p1_currents a_p1_warmths a_p1_depths a_p1_fars a_p1_pieceCells a_p1_pieceMonths a_p1_pieceHighs a_p1_pieceAges a_p1_pieceNeeds a_p1_dragCells a_p1_dragEighths o_last o_turnsLet o_slowsLet o_fuel o_glide o_count o_weightSum o_toPass o_foundNumber o_foundWeight o_foundTurns o_foundSlowed o_howFar o_tones o_only o_fars o_cellAt p1_pieceCount p1_dragCount p1_settings p1_howFar p1_tones p1_fars) → va_S A s.heap H locs → ∀ (ls : Array Slot), lv_has ls 3 [(0, .ref h_o), (1, .ref h_p1), (2, .int v2)] → okP (f_X5_begin_L47 n v2 o_last o_turnsLet o_slowsLet o_fuel o_glide o_howFar o_tones o_only o_fars o_cellAt p1_settings p1_howFar p1_tones p1_fars) post → W p l e (headSpec wsX5_begin rm_X5_begin).room s m ([.ref h_o, .ref h_p1] : List Value).toArray below meth c H locs 0 0 Q (F0 m 47 ls []) := by
    intro n
    induction n with
    | zero =>
      intro v2 o_last o_turnsLet o_slowsLet o_fuel o_glide o_howFar o_tones o_only o_fars o_cellAt H locs hP hD hS ls hl hw
      exact (ok0 hw).elim
    | succ n47 ih47 =>
      intro v2 o_last o_turnsLet o_slowsLet o_fuel o_glide o_howFar o_tones o_only o_fars o_cellAt H locs hP hD hS ls hl hw
      replace hw : okP (f_X5_begin_L47b (f_X5_begin_L47 n47) v2 o_last o_turnsLet o_slowsLet o_fuel o_glide o_howFar o_tones o_only o_fars o_cellAt p1_settings p1_howFar p1_tones p1_fars) post := hw
      unfold f_X5_begin_L47b at hw
      refine lv_iload_n hx hb dX5_begin_47 rfl (lv_at hl 2 rfl) ?_
      refine lv_bipush (v := 6) hx hb dX5_begin_48 (by decide) ?_
      refine lv_icmp_gt (tgt := 66) hx hb dX5_begin_50 (by decide) (fun c_4 => ?_) (fun c_4 => ?_)
      · replace hw := okT hw c_4
        clear c_4
        refine lv_aload_n hx hb dX5_begin_66 rfl (lv_at hl 0 rfl) ?_
        refine va_get (D := (dC, dI)) (ci := 5) (v := .ref a_o_cellAt) (C := RX5) (T := TX5) (N := 20) hx hb hts hi5 hown hK hP 0 rfl rfl 9 (by decide) hq6 (fun _ h9 => h9) rfl dX5_begin_67 ?_
        refine lv_iconst (v := 0) hx hb dX5_begin_70 (by decide) ?_
        refine lv_aload_n hx hb dX5_begin_71 rfl (lv_at hl 1 rfl) ?_
        refine va_get (D := (dC, dI)) (ci := 4) (v := .ref a_p1_settings) (C := RX4) (T := TX4) (N := 16) hx hb hts hi4 hown hK hP 6 rfl rfl 0 (by decide) hq2 (fun _ h9 => h9) rfl dX5_begin_72 ?_
        refine lv_iconst (v := 1) hx hb dX5_begin_75 (by decide) ?_
        refine va_iald (i := 1) hx hb hK hP 7 0 rfl rfl (show ¬ _ by decide) dX5_begin_76 ?_
        refine lv_topi (fun x_5 ex_5 => ?_)
        replace hw := okN ex_5 hw
        clear ex_5
        refine va_iast (i := 0) (x := x_5) hx hb hK hP hD hS 5 0 rfl rfl (show ¬ _ by decide) dX5_begin_77 (fun H locs hP hD hS => ?_)
        have hP : va_P (dC, dI) vwCl (W_X5_begin cyI cyJ cyO h_o h_p1 a_o_howFar a_o_tones a_o_only a_o_fars a_o_cellAt a_o_ends a_o_seen a_o_begun a_p1_settings a_p1_howFar a_p1_tones a_p1_currents a_p1_warmths a_p1_depths a_p1_fars a_p1_pieceCells a_p1_pieceMonths a_p1_pieceHighs a_p1_pieceAges a_p1_pieceNeeds a_p1_dragCells a_p1_dragEighths o_last o_turnsLet o_slowsLet o_fuel o_glide o_count o_weightSum o_toPass o_foundNumber o_foundWeight o_foundTurns o_foundSlowed o_howFar o_tones o_only o_fars (upd o_cellAt 0 x_5) p1_pieceCount p1_dragCount p1_settings p1_howFar p1_tones p1_fars) H := hP
        have hD : va_D A (W_X5_begin cyI cyJ cyO h_o h_p1 a_o_howFar a_o_tones a_o_only a_o_fars a_o_cellAt a_o_ends a_o_seen a_o_begun a_p1_settings a_p1_howFar a_p1_tones a_p1_currents a_p1_warmths a_p1_depths a_p1_fars a_p1_pieceCells a_p1_pieceMonths a_p1_pieceHighs a_p1_pieceAges a_p1_pieceNeeds a_p1_dragCells a_p1_dragEighths o_last o_turnsLet o_slowsLet o_fuel o_glide o_count o_weightSum o_toPass o_foundNumber o_foundWeight o_foundTurns o_foundSlowed o_howFar o_tones o_only o_fars (upd o_cellAt 0 x_5) p1_pieceCount p1_dragCount p1_settings p1_howFar p1_tones p1_fars) := hD
        refine lv_aload_n hx hb dX5_begin_78 rfl (lv_at hl 0 rfl) ?_
        refine lv_aload_n hx hb dX5_begin_79 rfl (lv_at hl 1 rfl) ?_
        refine va_get (D := (dC, dI)) (ci := 4) (v := .ref a_p1_settings) (C := RX4) (T := TX4) (N := 16) hx hb hts hi4 hown hK hP 6 rfl rfl 0 (by decide) hq2 (fun _ h9 => h9) rfl dX5_begin_80 ?_
        refine lv_iconst (v := 2) hx hb dX5_begin_83 (by decide) ?_
        refine va_iald (i := 2) hx hb hK hP 7 0 rfl rfl (show ¬ _ by decide) dX5_begin_84 ?_
        refine lv_topi (fun x_6 ex_6 => ?_)
        replace hw := okN ex_6 hw
        clear ex_6
        refine va_put (D := (dC, dI)) (ci := 5) (v := .int x_6) (ty := .int) (C := RX5) (T := TX5) (N := 20) hx hb hts hi5 tyX5 tyX5_ok nmX5 hown hK hP hD hS 0 rfl rfl 4 (by decide) hq7 (fun _ h9 => h9) rfl (by decide +kernel) rfl rfl (Nat.le_of_ble_eq_true rfl) dX5_begin_85 (fun H locs hP hD hS => ?_)
        have hP : va_P (dC, dI) vwCl (W_X5_begin cyI cyJ cyO h_o h_p1 a_o_howFar a_o_tones a_o_only a_o_fars a_o_cellAt a_o_ends a_o_seen a_o_begun a_p1_settings a_p1_howFar a_p1_tones a_p1_currents a_p1_warmths a_p1_depths a_p1_fars a_p1_pieceCells a_p1_pieceMonths a_p1_pieceHighs a_p1_pieceAges a_p1_pieceNeeds a_p1_dragCells a_p1_dragEighths x_6 o_turnsLet o_slowsLet o_fuel o_glide o_count o_weightSum o_toPass o_foundNumber o_foundWeight o_foundTurns o_foundSlowed o_howFar o_tones o_only o_fars (upd o_cellAt 0 x_5) p1_pieceCount p1_dragCount p1_settings p1_howFar p1_tones p1_fars) H := hP
        have hD : va_D A (W_X5_begin cyI cyJ cyO h_o h_p1 a_o_howFar a_o_tones a_o_only a_o_fars a_o_cellAt a_o_ends a_o_seen a_o_begun a_p1_settings a_p1_howFar a_p1_tones a_p1_currents a_p1_warmths a_p1_depths a_p1_fars a_p1_pieceCells a_p1_pieceMonths a_p1_pieceHighs a_p1_pieceAges a_p1_pieceNeeds a_p1_dragCells a_p1_dragEighths x_6 o_turnsLet o_slowsLet o_fuel o_glide o_count o_weightSum o_toPass o_foundNumber o_foundWeight o_foundTurns o_foundSlowed o_howFar o_tones o_only o_fars (upd o_cellAt 0 x_5) p1_pieceCount p1_dragCount p1_settings p1_howFar p1_tones p1_fars) := hD
        refine lv_aload_n hx hb dX5_begin_88 rfl (lv_at hl 0 rfl) ?_
        refine lv_aload_n hx hb dX5_begin_89 rfl (lv_at hl 1 rfl) ?_
        refine va_get (D := (dC, dI)) (ci := 4) (v := .ref a_p1_settings) (C := RX4) (T := TX4) (N := 16) hx hb hts hi4 hown hK hP 6 rfl rfl 0 (by decide) hq2 (fun _ h9 => h9) rfl dX5_begin_90 ?_
        refine lv_iconst (v := 3) hx hb dX5_begin_93 (by decide) ?_
        refine va_iald (i := 3) hx hb hK hP 7 0 rfl rfl (show ¬ _ by decide) dX5_begin_94 ?_
        refine lv_topi (fun x_7 ex_7 => ?_)
        replace hw := okN ex_7 hw
        clear ex_7
        refine va_put (D := (dC, dI)) (ci := 5) (v := .int x_7) (ty := .int) (C := RX5) (T := TX5) (N := 20) hx hb hts hi5 tyX5 tyX5_ok nmX5 hown hK hP hD hS 0 rfl rfl 5 (by decide) hq8 (fun _ h9 => h9) rfl (by decide +kernel) rfl rfl (Nat.le_of_ble_eq_true rfl) dX5_begin_95 (fun H locs hP hD hS => ?_)
        have hP : va_P (dC, dI) vwCl (W_X5_begin cyI cyJ cyO h_o h_p1 a_o_howFar a_o_tones a_o_only a_o_fars a_o_cellAt a_o_ends a_o_seen a_o_begun a_p1_settings a_p1_howFar a_p1_tones a_p1_currents a_p1_warmths a_p1_depths a_p1_fars a_p1_pieceCells a_p1_pieceMonths a_p1_pieceHighs a_p1_pieceAges a_p1_pieceNeeds a_p1_dragCells a_p1_dragEighths x_6 x_7 o_slowsLet o_fuel o_glide o_count o_weightSum o_toPass o_foundNumber o_foundWeight o_foundTurns o_foundSlowed o_howFar o_tones o_only o_fars (upd o_cellAt 0 x_5) p1_pieceCount p1_dragCount p1_settings p1_howFar p1_tones p1_fars) H := hP
        have hD : va_D A (W_X5_begin cyI cyJ cyO h_o h_p1 a_o_howFar a_o_tones a_o_only a_o_fars a_o_cellAt a_o_ends a_o_seen a_o_begun a_p1_settings a_p1_howFar a_p1_tones a_p1_currents a_p1_warmths a_p1_depths a_p1_fars a_p1_pieceCells a_p1_pieceMonths a_p1_pieceHighs a_p1_pieceAges a_p1_pieceNeeds a_p1_dragCells a_p1_dragEighths x_6 x_7 o_slowsLet o_fuel o_glide o_count o_weightSum o_toPass o_foundNumber o_foundWeight o_foundTurns o_foundSlowed o_howFar o_tones o_only o_fars (upd o_cellAt 0 x_5) p1_pieceCount p1_dragCount p1_settings p1_howFar p1_tones p1_fars) := hD
        refine lv_aload_n hx hb dX5_begin_98 rfl (lv_at hl 0 rfl) ?_
        refine lv_aload_n hx hb dX5_begin_99 rfl (lv_at hl 1 rfl) ?_
        refine va_get (D := (dC, dI)) (ci := 4) (v := .ref a_p1_settings) (C := RX4) (T := TX4) (N := 16) hx hb hts hi4 hown hK hP 6 rfl rfl 0 (by decide) hq2 (fun _ h9 => h9) rfl dX5_begin_100 ?_
        refine lv_iconst (v := 4) hx hb dX5_begin_103 (by decide) ?_
        refine va_iald (i := 4) hx hb hK hP 7 0 rfl rfl (show ¬ _ by decide) dX5_begin_104 ?_
        refine lv_iconst (v := 1) hx hb dX5_begin_105 (by decide) ?_
        refine lv_icmp_ne (tgt := 113) hx hb dX5_begin_106 (by decide) (fun c_8 => ?_) (fun c_8 => ?_)
        · replace hw := okF hw c_8
          clear c_8
          refine lv_iconst (v := 0) hx hb dX5_begin_113 (by decide) ?_
          exact w114 0 x_6 x_7 o_slowsLet o_fuel o_glide o_howFar o_tones o_only o_fars (upd o_cellAt 0 x_5) _ _ hP hD hS _ (lv_sub hl [0, 1] rfl) hw
        · replace hw := okT hw c_8
          clear c_8
          refine lv_iconst (v := 1) hx hb dX5_begin_109 (by decide) ?_
          refine lv_goto (tgt := 114) hx hb dX5_begin_110 (by decide) ?_
          exact w114 1 x_6 x_7 o_slowsLet o_fuel o_glide o_howFar o_tones o_only o_fars (upd o_cellAt 0 x_5) _ _ hP hD hS _ (lv_sub hl [0, 1] rfl) hw
      · replace hw := okF hw c_4
        clear c_4
        refine lv_aload_n hx hb dX5_begin_53 rfl (lv_at hl 0 rfl) ?_
        refine va_get (D := (dC, dI)) (ci := 5) (v := .ref a_o_only) (C := RX5) (T := TX5) (N := 20) hx hb hts hi5 hown hK hP 0 rfl rfl 2 (by decide) hq9 (fun _ h9 => h9) rfl dX5_begin_54 ?_
        refine lv_iload_n hx hb dX5_begin_57 rfl (lv_at hl 2 rfl) ?_
        refine lv_iconst (v := (-1)) hx hb dX5_begin_58 (by decide) ?_
        obtain ⟨h_9, hw⟩ := okC hw
        refine va_iast (i := v2) (x := (-1)) hx hb hK hP hD hS 3 0 rfl rfl h_9 dX5_begin_59 (fun H locs hP hD hS => ?_)
        have hP : va_P (dC, dI) vwCl (W_X5_begin cyI cyJ cyO h_o h_p1 a_o_howFar a_o_tones a_o_only a_o_fars a_o_cellAt a_o_ends a_o_seen a_o_begun a_p1_settings a_p1_howFar a_p1_tones a_p1_currents a_p1_warmths a_p1_depths a_p1_fars a_p1_pieceCells a_p1_pieceMonths a_p1_pieceHighs a_p1_pieceAges a_p1_pieceNeeds a_p1_dragCells a_p1_dragEighths o_last o_turnsLet o_slowsLet o_fuel o_glide o_count o_weightSum o_toPass o_foundNumber o_foundWeight o_foundTurns o_foundSlowed o_howFar o_tones (upd o_only v2.toNatClampNeg (-1)) o_fars o_cellAt p1_pieceCount p1_dragCount p1_settings p1_howFar p1_tones p1_fars) H := hP
        have hD : va_D A (W_X5_begin cyI cyJ cyO h_o h_p1 a_o_howFar a_o_tones a_o_only a_o_fars a_o_cellAt a_o_ends a_o_seen a_o_begun a_p1_settings a_p1_howFar a_p1_tones a_p1_currents a_p1_warmths a_p1_depths a_p1_fars a_p1_pieceCells a_p1_pieceMonths a_p1_pieceHighs a_p1_pieceAges a_p1_pieceNeeds a_p1_dragCells a_p1_dragEighths o_last o_turnsLet o_slowsLet o_fuel o_glide o_count o_weightSum o_toPass o_foundNumber o_foundWeight o_foundTurns o_foundSlowed o_howFar o_tones (upd o_only v2.toNatClampNeg (-1)) o_fars o_cellAt p1_pieceCount p1_dragCount p1_settings p1_howFar p1_tones p1_fars) := hD
        obtain ⟨x_10, ex_10⟩ : ∃ y : Int32, y = v2 + 1 := ⟨_, rfl⟩
        replace hw := okN ex_10 hw
        refine lv_iinc (v := x_10) (lv' := [(2, .int x_10), (0, .ref h_o), (1, .ref h_p1)]) hx hb dX5_begin_60 hl (k := 2) rfl (by rw [ex_10]; rfl) (by decide) rfl (fun ls hl => ?_)
        clear ex_10
        refine lv_goto (tgt := 47) hx hb dX5_begin_63 (by decide) ?_
        exact ih47 x_10 o_last o_turnsLet o_slowsLet o_fuel o_glide o_howFar o_tones (upd o_only v2.toNatClampNeg (-1)) o_fars o_cellAt _ _ hP hD hS _ (lv_sub hl [1, 2, 0] rfl) hw
  unfold f_X5_begin at hw
  have hP : va_P (dC, dI) vwCl (W_X5_begin cyI cyJ cyO h_o h_p1 a_o_howFar a_o_tones a_o_only a_o_fars a_o_cellAt a_o_ends a_o_seen a_o_begun a_p1_settings a_p1_howFar a_p1_tones a_p1_currents a_p1_warmths a_p1_depths a_p1_fars a_p1_pieceCells a_p1_pieceMonths a_p1_pieceHighs a_p1_pieceAges a_p1_pieceNeeds a_p1_dragCells a_p1_dragEighths o_last o_turnsLet o_slowsLet o_fuel o_glide o_count o_weightSum o_toPass o_foundNumber o_foundWeight o_foundTurns o_foundSlowed o_howFar o_tones o_only o_fars o_cellAt p1_pieceCount p1_dragCount p1_settings p1_howFar p1_tones p1_fars) s.heap := hP
  obtain ⟨H, hH⟩ : ∃ H, H = s.heap := ⟨_, rfl⟩
  obtain ⟨locs, hlo⟩ : ∃ x : List Loc, x = [] := ⟨_, rfl⟩
  have hP : va_P (dC, dI) vwCl (W_X5_begin cyI cyJ cyO h_o h_p1 a_o_howFar a_o_tones a_o_only a_o_fars a_o_cellAt a_o_ends a_o_seen a_o_begun a_p1_settings a_p1_howFar a_p1_tones a_p1_currents a_p1_warmths a_p1_depths a_p1_fars a_p1_pieceCells a_p1_pieceMonths a_p1_pieceHighs a_p1_pieceAges a_p1_pieceNeeds a_p1_dragCells a_p1_dragEighths o_last o_turnsLet o_slowsLet o_fuel o_glide o_count o_weightSum o_toPass o_foundNumber o_foundWeight o_foundTurns o_foundSlowed o_howFar o_tones o_only o_fars o_cellAt p1_pieceCount p1_dragCount p1_settings p1_howFar p1_tones p1_fars) H := by rw [hH]; exact hP
  have hS : va_S A s.heap H locs := by rw [hH, hlo]; exact hS
  refine kH hH hlo ?_
  clear hH hlo
  refine lv_aload_n hx hb dX5_begin_0 rfl (lv_at hl 1 rfl) ?_
  refine va_get (D := (dC, dI)) (ci := 4) (v := .ref a_p1_howFar) (C := RX4) (T := TX4) (N := 16) hx hb hts hi4 hown hK hP 6 rfl rfl 1 (by decide) hq10 (fun _ h9 => h9) rfl dX5_begin_1 ?_
  refine lv_iconst (v := 0) hx hb dX5_begin_4 (by decide) ?_
  refine lv_aload_n hx hb dX5_begin_5 rfl (lv_at hl 0 rfl) ?_
  refine va_get (D := (dC, dI)) (ci := 5) (v := .ref a_o_howFar) (C := RX5) (T := TX5) (N := 20) hx hb hts hi5 hown hK hP 0 rfl rfl 0 (by decide) hq11 (fun _ h9 => h9) rfl dX5_begin_6 ?_
  refine lv_iconst (v := 0) hx hb dX5_begin_9 (by decide) ?_
  refine lv_bipush (v := 7) hx hb dX5_begin_10 (by decide) ?_
  refine va_copyi (sp := 0) (dp := 0) (n := 7) (ty := .int) hx hb (hml.trans hl.1.symm) hown hq12 hq13 hq14 hq15 hK hP hD hS 8 1 0 0 rfl rfl rfl rfl rfl (by decide) (by decide) (by decide) (by decide) (by decide) (fun _ _ => rfl) (Nat.le_of_ble_eq_true rfl) (Nat.le_of_ble_eq_true rfl) dX5_begin_12 (fun H locs hP hD hS => ?_)
  have hP : va_P (dC, dI) vwCl (W_X5_begin cyI cyJ cyO h_o h_p1 a_o_howFar a_o_tones a_o_only a_o_fars a_o_cellAt a_o_ends a_o_seen a_o_begun a_p1_settings a_p1_howFar a_p1_tones a_p1_currents a_p1_warmths a_p1_depths a_p1_fars a_p1_pieceCells a_p1_pieceMonths a_p1_pieceHighs a_p1_pieceAges a_p1_pieceNeeds a_p1_dragCells a_p1_dragEighths o_last o_turnsLet o_slowsLet o_fuel o_glide o_count o_weightSum o_toPass o_foundNumber o_foundWeight o_foundTurns o_foundSlowed (va_cpy p1_howFar o_howFar 0 0 7) o_tones o_only o_fars o_cellAt p1_pieceCount p1_dragCount p1_settings p1_howFar p1_tones p1_fars) H := hP
  have hD : va_D A (W_X5_begin cyI cyJ cyO h_o h_p1 a_o_howFar a_o_tones a_o_only a_o_fars a_o_cellAt a_o_ends a_o_seen a_o_begun a_p1_settings a_p1_howFar a_p1_tones a_p1_currents a_p1_warmths a_p1_depths a_p1_fars a_p1_pieceCells a_p1_pieceMonths a_p1_pieceHighs a_p1_pieceAges a_p1_pieceNeeds a_p1_dragCells a_p1_dragEighths o_last o_turnsLet o_slowsLet o_fuel o_glide o_count o_weightSum o_toPass o_foundNumber o_foundWeight o_foundTurns o_foundSlowed (va_cpy p1_howFar o_howFar 0 0 7) o_tones o_only o_fars o_cellAt p1_pieceCount p1_dragCount p1_settings p1_howFar p1_tones p1_fars) := hD
  refine lv_aload_n hx hb dX5_begin_15 rfl (lv_at hl 1 rfl) ?_
  refine va_get (D := (dC, dI)) (ci := 4) (v := .ref a_p1_tones) (C := RX4) (T := TX4) (N := 16) hx hb hts hi4 hown hK hP 6 rfl rfl 2 (by decide) hq16 (fun _ h9 => h9) rfl dX5_begin_16 ?_
  refine lv_iconst (v := 0) hx hb dX5_begin_19 (by decide) ?_
  refine lv_aload_n hx hb dX5_begin_20 rfl (lv_at hl 0 rfl) ?_
  refine va_get (D := (dC, dI)) (ci := 5) (v := .ref a_o_tones) (C := RX5) (T := TX5) (N := 20) hx hb hts hi5 hown hK hP 0 rfl rfl 1 (by decide) hq17 (fun _ h9 => h9) rfl dX5_begin_21 ?_
  refine lv_iconst (v := 0) hx hb dX5_begin_24 (by decide) ?_
  refine lv_bipush (v := 7) hx hb dX5_begin_25 (by decide) ?_
  refine va_copyi (sp := 0) (dp := 0) (n := 7) (ty := .int) hx hb (hml.trans hl.1.symm) hown hq12 hq13 hq14 hq15 hK hP hD hS 9 2 0 0 rfl rfl rfl rfl rfl (by decide) (by decide) (by decide) (by decide) (by decide) (fun _ _ => rfl) (Nat.le_of_ble_eq_true rfl) (Nat.le_of_ble_eq_true rfl) dX5_begin_27 (fun H locs hP hD hS => ?_)
  have hP : va_P (dC, dI) vwCl (W_X5_begin cyI cyJ cyO h_o h_p1 a_o_howFar a_o_tones a_o_only a_o_fars a_o_cellAt a_o_ends a_o_seen a_o_begun a_p1_settings a_p1_howFar a_p1_tones a_p1_currents a_p1_warmths a_p1_depths a_p1_fars a_p1_pieceCells a_p1_pieceMonths a_p1_pieceHighs a_p1_pieceAges a_p1_pieceNeeds a_p1_dragCells a_p1_dragEighths o_last o_turnsLet o_slowsLet o_fuel o_glide o_count o_weightSum o_toPass o_foundNumber o_foundWeight o_foundTurns o_foundSlowed (va_cpy p1_howFar o_howFar 0 0 7) (va_cpy p1_tones o_tones 0 0 7) o_only o_fars o_cellAt p1_pieceCount p1_dragCount p1_settings p1_howFar p1_tones p1_fars) H := hP
  have hD : va_D A (W_X5_begin cyI cyJ cyO h_o h_p1 a_o_howFar a_o_tones a_o_only a_o_fars a_o_cellAt a_o_ends a_o_seen a_o_begun a_p1_settings a_p1_howFar a_p1_tones a_p1_currents a_p1_warmths a_p1_depths a_p1_fars a_p1_pieceCells a_p1_pieceMonths a_p1_pieceHighs a_p1_pieceAges a_p1_pieceNeeds a_p1_dragCells a_p1_dragEighths o_last o_turnsLet o_slowsLet o_fuel o_glide o_count o_weightSum o_toPass o_foundNumber o_foundWeight o_foundTurns o_foundSlowed (va_cpy p1_howFar o_howFar 0 0 7) (va_cpy p1_tones o_tones 0 0 7) o_only o_fars o_cellAt p1_pieceCount p1_dragCount p1_settings p1_howFar p1_tones p1_fars) := hD
  refine lv_aload_n hx hb dX5_begin_30 rfl (lv_at hl 1 rfl) ?_
  refine va_get (D := (dC, dI)) (ci := 4) (v := .ref a_p1_fars) (C := RX4) (T := TX4) (N := 16) hx hb hts hi4 hown hK hP 6 rfl rfl 6 (by decide) hq18 (fun _ h9 => h9) rfl dX5_begin_31 ?_
  refine lv_iconst (v := 0) hx hb dX5_begin_34 (by decide) ?_
  refine lv_aload_n hx hb dX5_begin_35 rfl (lv_at hl 0 rfl) ?_
  refine va_get (D := (dC, dI)) (ci := 5) (v := .ref a_o_fars) (C := RX5) (T := TX5) (N := 20) hx hb hts hi5 hown hK hP 0 rfl rfl 3 (by decide) hq19 (fun _ h9 => h9) rfl dX5_begin_36 ?_
  refine lv_iconst (v := 0) hx hb dX5_begin_39 (by decide) ?_
  refine lv_bipush (v := 100) hx hb dX5_begin_40 (by decide) ?_
  refine va_copyi (sp := 0) (dp := 0) (n := 100) (ty := .int) hx hb (hml.trans hl.1.symm) hown hq12 hq13 hq14 hq15 hK hP hD hS 10 4 0 0 rfl rfl rfl rfl rfl (by decide) (by decide) (by decide) (by decide) (by decide) (fun _ _ => rfl) (Nat.le_of_ble_eq_true rfl) (Nat.le_of_ble_eq_true rfl) dX5_begin_42 (fun H locs hP hD hS => ?_)
  have hP : va_P (dC, dI) vwCl (W_X5_begin cyI cyJ cyO h_o h_p1 a_o_howFar a_o_tones a_o_only a_o_fars a_o_cellAt a_o_ends a_o_seen a_o_begun a_p1_settings a_p1_howFar a_p1_tones a_p1_currents a_p1_warmths a_p1_depths a_p1_fars a_p1_pieceCells a_p1_pieceMonths a_p1_pieceHighs a_p1_pieceAges a_p1_pieceNeeds a_p1_dragCells a_p1_dragEighths o_last o_turnsLet o_slowsLet o_fuel o_glide o_count o_weightSum o_toPass o_foundNumber o_foundWeight o_foundTurns o_foundSlowed (va_cpy p1_howFar o_howFar 0 0 7) (va_cpy p1_tones o_tones 0 0 7) o_only (va_cpy p1_fars o_fars 0 0 100) o_cellAt p1_pieceCount p1_dragCount p1_settings p1_howFar p1_tones p1_fars) H := hP
  have hD : va_D A (W_X5_begin cyI cyJ cyO h_o h_p1 a_o_howFar a_o_tones a_o_only a_o_fars a_o_cellAt a_o_ends a_o_seen a_o_begun a_p1_settings a_p1_howFar a_p1_tones a_p1_currents a_p1_warmths a_p1_depths a_p1_fars a_p1_pieceCells a_p1_pieceMonths a_p1_pieceHighs a_p1_pieceAges a_p1_pieceNeeds a_p1_dragCells a_p1_dragEighths o_last o_turnsLet o_slowsLet o_fuel o_glide o_count o_weightSum o_toPass o_foundNumber o_foundWeight o_foundTurns o_foundSlowed (va_cpy p1_howFar o_howFar 0 0 7) (va_cpy p1_tones o_tones 0 0 7) o_only (va_cpy p1_fars o_fars 0 0 100) o_cellAt p1_pieceCount p1_dragCount p1_settings p1_howFar p1_tones p1_fars) := hD
  refine lv_iconst (v := 0) hx hb dX5_begin_45 (by decide) ?_
  refine lv_istore_n (lv' := [(2, .int 0), (0, .ref h_o), (1, .ref h_p1)]) hx hb dX5_begin_46 rfl hl (by decide) rfl (fun ls hl => ?_)
  exact w47 FU 0 o_last o_turnsLet o_slowsLet o_fuel o_glide (va_cpy p1_howFar o_howFar 0 0 7) (va_cpy p1_tones o_tones 0 0 7) o_only (va_cpy p1_fars o_fars 0 0 100) o_cellAt _ _ hP hD hS _ (lv_sub hl [1, 2, 0] rfl) hw
/-! ===== X5_leaveOutRings ===== -/
theorem dX5_leaveOutRings_0 : decode cX5_leaveOutRings 0 = .ok (.iconst 0, 1) := by decide +kernel
theorem dX5_leaveOutRings_1 : decode cX5_leaveOutRings 1 = .ok (.istore_n 1, 1) := by decide +kernel
theorem dX5_leaveOutRings_2 : decode cX5_leaveOutRings 2 = .ok (.iload_n 1, 1) := by decide +kernel
theorem dX5_leaveOutRings_3 : decode cX5_leaveOutRings 3 = .ok (.bipush 6, 2) := by decide +kernel
theorem dX5_leaveOutRings_5 : decode cX5_leaveOutRings 5 = .ok (.if_icmp .gt 23, 3) := by decide +kernel
theorem dX5_leaveOutRings_8 : decode cX5_leaveOutRings 8 = .ok (.aload_n 0, 1) := by decide +kernel
theorem dX5_leaveOutRings_9 : decode cX5_leaveOutRings 9 = .ok (.getfield 9, 3) := by decide +kernel
theorem dX5_leaveOutRings_12 : decode cX5_leaveOutRings 12 = .ok (.iload_n 1, 1) := by decide +kernel
theorem dX5_leaveOutRings_13 : decode cX5_leaveOutRings 13 = .ok (.iconst (-1), 1) := by decide +kernel
theorem dX5_leaveOutRings_14 : decode cX5_leaveOutRings 14 = .ok (.iastore, 1) := by decide +kernel
theorem dX5_leaveOutRings_15 : decode cX5_leaveOutRings 15 = .ok (.aload_n 0, 1) := by decide +kernel
theorem dX5_leaveOutRings_16 : decode cX5_leaveOutRings 16 = .ok (.getfield 15, 3) := by decide +kernel
theorem dX5_leaveOutRings_19 : decode cX5_leaveOutRings 19 = .ok (.iload_n 1, 1) := by decide +kernel
theorem dX5_leaveOutRings_20 : decode cX5_leaveOutRings 20 = .ok (.iconst 0, 1) := by decide +kernel
theorem dX5_leaveOutRings_21 : decode cX5_leaveOutRings 21 = .ok (.iastore, 1) := by decide +kernel
theorem dX5_leaveOutRings_22 : decode cX5_leaveOutRings 22 = .ok (.iinc 1 1, 3) := by decide +kernel
theorem dX5_leaveOutRings_25 : decode cX5_leaveOutRings 25 = .ok (.goto (-23), 3) := by decide +kernel
theorem dX5_leaveOutRings_28 : decode cX5_leaveOutRings 28 = .ok (.return_, 1) := by decide +kernel
abbrev W_X5_leaveOutRings (cyI cyJ cyO : ClassId) (h_o a_o_howFar a_o_tones a_o_only a_o_fars a_o_cellAt a_o_ends a_o_seen a_o_begun : Nat) (o_last : Int32) (o_turnsLet : Int32) (o_slowsLet : Int32) (o_fuel : Int32) (o_glide : Int32) (o_count : Int32) (o_weightSum : Int64) (o_toPass : Int32) (o_foundNumber : Int32) (o_foundWeight : Int32) (o_foundTurns : Int32) (o_foundSlowed : Int32) (o_howFar : Nat → Int32) (o_tones : Nat → Int32) : va_W := [(h_o, .inr (5, [.ref a_o_howFar, .ref a_o_tones, .ref a_o_only, .ref a_o_fars, .int o_last, .int o_turnsLet, .int o_slowsLet, .int o_fuel, .int o_glide, .ref a_o_cellAt, .ref a_o_ends, .ref a_o_seen, .ref a_o_begun, .int o_count, .long o_weightSum, .int o_toPass, .int o_foundNumber, .int o_foundWeight, .int o_foundTurns, .int o_foundSlowed])), (a_o_howFar, .inl (cyI, 7, .inl o_howFar)), (a_o_tones, .inl (cyI, 7, .inl o_tones))]
def f_X5_leaveOutRings_L2b (k2 : Int32 → (Nat → Int32) → (Nat → Int32) → Option ((Nat → Int32) × (Nat → Int32))) (v1 : Int32) (o_howFar : Nat → Int32) (o_tones : Nat → Int32) : Option ((Nat → Int32) × (Nat → Int32)) :=
  if 6 < v1 then
    some (o_howFar, o_tones)
  else
    chk (¬ (v1 < 0 ∨ 7 ≤ v1.toNatClampNeg)) <|
    chk (¬ (v1 < 0 ∨ 7 ≤ v1.toNatClampNeg)) <|
    nm (v1 + 1) fun x_1 =>
    k2 x_1 (upd o_howFar v1.toNatClampNeg (-1)) (upd o_tones v1.toNatClampNeg 0)
def f_X5_leaveOutRings_L2 : Nat → Int32 → (Nat → Int32) → (Nat → Int32) → Option ((Nat → Int32) × (Nat → Int32))
  | 0 => fun _ _ _ => none
  | n + 1 => f_X5_leaveOutRings_L2b (f_X5_leaveOutRings_L2 n)
def f_X5_leaveOutRings (o_howFar : Nat → Int32) (o_tones : Nat → Int32) : Option ((Nat → Int32) × (Nat → Int32)) :=
  f_X5_leaveOutRings_L2 FU 0 o_howFar o_tones
abbrev rm_X5_leaveOutRings : Room := { frames := 0, cells := 0, slots := 0, locals := 0 }
set_option maxRecDepth 100000 in
set_option maxHeartbeats 4000000 in
theorem c_X5_leaveOutRings (l : Launch) (dC : Nat → ClassId) (dI : Nat → Nat → Nat) (cyI cyJ cyO : ClassId) (sz : Nat) (h_o a_o_howFar a_o_tones a_o_only a_o_fars a_o_cellAt a_o_ends a_o_seen a_o_begun : Nat) (o_last : Int32) (o_turnsLet : Int32) (o_slowsLet : Int32) (o_fuel : Int32) (o_glide : Int32) (o_count : Int32) (o_weightSum : Int64) (o_toPass : Int32) (o_foundNumber : Int32) (o_foundWeight : Int32) (o_foundTurns : Int32) (o_foundSlowed : Int32) (o_howFar : Nat → Int32) (o_tones : Nat → Int32) (post : ((Nat → Int32) × (Nat → Int32)) → Prop) (hf : okP (f_X5_leaveOutRings o_howFar o_tones) post) : Cv l (dC, dI) (tyL cyI cyJ cyO) yX5_leaveOutRings wsX5_leaveOutRings rm_X5_leaveOutRings [.ref h_o] sz (W_X5_leaveOutRings cyI cyJ cyO h_o a_o_howFar a_o_tones a_o_only a_o_fars a_o_cellAt a_o_ends a_o_seen a_o_begun o_last o_turnsLet o_slowsLet o_fuel o_glide o_count o_weightSum o_toPass o_foundNumber o_foundWeight o_foundTurns o_foundSlowed o_howFar o_tones) zN (fun u => post u) (fun u => (W_X5_leaveOutRings cyI cyJ cyO h_o a_o_howFar a_o_tones a_o_only a_o_fars a_o_cellAt a_o_ends a_o_seen a_o_begun o_last o_turnsLet o_slowsLet o_fuel o_glide o_count o_weightSum o_toPass o_foundNumber o_foundWeight o_foundTurns o_foundSlowed u.1 u.2)) := by
  refine Met.ofW (cc := cX5_leaveOutRings) (maxL := 2) (ret := none) (by decide) rfl ?_
  intro p e s m args below meth c s₁ B hml hv
  obtain ⟨rfl, hsz, hP, hK, hD0, hZ⟩ := hv
  have hx := B.exec
  have hb := B.bytes
  have hr := B.returns
  have hts := atoms_spec (ws := wsX5_leaveOutRings) B.pre
  have hown : s.vm.findClass RX5 = some m.cls := findClass_of_methodNamed B.named
  have hlocks := B.notSynchronized
  subst hsz
  have hD := hD0.self (sz := s.heap.size)
  generalize hAe : va_A (W_X5_leaveOutRings cyI cyJ cyO h_o a_o_howFar a_o_tones a_o_only a_o_fars a_o_cellAt a_o_ends a_o_seen a_o_begun o_last o_turnsLet o_slowsLet o_fuel o_glide o_count o_weightSum o_toPass o_foundNumber o_foundWeight o_foundTurns o_foundSlowed o_howFar o_tones) s.heap.size = A at hD hZ ⊢
  have hA : ∀ q : Nat, s.heap.size ≤ q → A q := fun q h => by rw [← hAe]; exact Or.inr h
  clear hAe hD0
  have hS : va_S A s.heap s.heap [] := va_S.rf
  have hl := lv_entry ([.ref h_o]) (n := 2) (Nat.le_of_ble_eq_true rfl)
  rw [lg_entry_eq]
  generalize (lg_sl ([.ref h_o]) ++ List.replicate (2 - (lg_sl ([.ref h_o])).length) Slot.unset).toArray = ls at hl ⊢
  have hl : lv_has ls 2 [(0, .ref h_o)] := hl
  refine kW (fun Q hQ => ?_)
  have hq0 := hts _ (List.mem_cons_of_mem _ q_117)
  have hi5 : ∀ w ∈ u_ws RX5 TX5 20, w ∈ wsX5_leaveOutRings := fun w h => List.mem_cons_of_mem _ (inX5 w h)
  have hq2 := hts _ (List.mem_cons_of_mem _ q_118)
  have hw := hf
  have w2 : ∀ (n : Nat), ∀ (v1 : Int32) (o_howFar : Nat → Int32) (o_tones : Nat → Int32) (H : Heap) (locs : List Loc), va_P (dC, dI) vwCl (W_X5_leaveOutRings cyI cyJ cyO h_o a_o_howFar a_o_tones a_o_only a_o_fars a_o_cellAt a_o_ends a_o_seen a_o_begun o_last o_turnsLet o_slowsLet o_fuel o_glide o_count o_weightSum o_toPass o_foundNumber o_foundWeight o_foundTurns o_foundSlowed o_howFar o_tones) H → va_D A (W_X5_leaveOutRings cyI cyJ cyO h_o a_o_howFar a_o_tones a_o_only a_o_fars a_o_cellAt a_o_ends a_o_seen a_o_begun o_last o_turnsLet o_slowsLet o_fuel o_glide o_count o_weightSum o_toPass o_foundNumber o_foundWeight o_foundTurns o_foundSlowed o_howFar o_tones) → va_S A s.heap H locs → ∀ (ls : Array Slot), lv_has ls 2 [(0, .ref h_o), (1, .int v1)] → okP (f_X5_leaveOutRings_L2 n v1 o_howFar o_tones) post → W p l e (headSpec wsX5_leaveOutRings rm_X5_leaveOutRings).room s m ([.ref h_o] : List Value).toArray below meth c H locs 0 0 Q (F0 m 2 ls []) := by
    intro n
    induction n with
    | zero =>
      intro v1 o_howFar o_tones H locs hP hD hS ls hl hw
      exact (ok0 hw).elim
    | succ n2 ih2 =>
      intro v1 o_howFar o_tones H locs hP hD hS ls hl hw
      replace hw : okP (f_X5_leaveOutRings_L2b (f_X5_leaveOutRings_L2 n2) v1 o_howFar o_tones) post := hw
      unfold f_X5_leaveOutRings_L2b at hw
      refine lv_iload_n hx hb dX5_leaveOutRings_2 rfl (lv_at hl 1 rfl) ?_
      refine lv_bipush (v := 6) hx hb dX5_leaveOutRings_3 (by decide) ?_
      refine lv_icmp_gt (tgt := 28) hx hb dX5_leaveOutRings_5 (by decide) (fun c_1 => ?_) (fun c_1 => ?_)
      · replace hw := okT hw c_1
        clear c_1
        rw [hQ]
        exact W.vret hx hb hr (fun t ht hW => ⟨⟨(o_howFar, o_tones), rfl, okS hw, by rw [ht]; exact hP, va_K.moved hW.alike hK, hD⟩, hS.F ht⟩) hS.2.2 dX5_leaveOutRings_28
      · replace hw := okF hw c_1
        clear c_1
        refine lv_aload_n hx hb dX5_leaveOutRings_8 rfl (lv_at hl 0 rfl) ?_
        refine va_get (D := (dC, dI)) (ci := 5) (v := .ref a_o_howFar) (C := RX5) (T := TX5) (N := 20) hx hb hts hi5 hown hK hP 0 rfl rfl 0 (by decide) hq0 (fun _ h9 => h9) rfl dX5_leaveOutRings_9 ?_
        refine lv_iload_n hx hb dX5_leaveOutRings_12 rfl (lv_at hl 1 rfl) ?_
        refine lv_iconst (v := (-1)) hx hb dX5_leaveOutRings_13 (by decide) ?_
        obtain ⟨h_2, hw⟩ := okC hw
        refine va_iast (i := v1) (x := (-1)) hx hb hK hP hD hS 1 0 rfl rfl h_2 dX5_leaveOutRings_14 (fun H locs hP hD hS => ?_)
        have hP : va_P (dC, dI) vwCl (W_X5_leaveOutRings cyI cyJ cyO h_o a_o_howFar a_o_tones a_o_only a_o_fars a_o_cellAt a_o_ends a_o_seen a_o_begun o_last o_turnsLet o_slowsLet o_fuel o_glide o_count o_weightSum o_toPass o_foundNumber o_foundWeight o_foundTurns o_foundSlowed (upd o_howFar v1.toNatClampNeg (-1)) o_tones) H := hP
        have hD : va_D A (W_X5_leaveOutRings cyI cyJ cyO h_o a_o_howFar a_o_tones a_o_only a_o_fars a_o_cellAt a_o_ends a_o_seen a_o_begun o_last o_turnsLet o_slowsLet o_fuel o_glide o_count o_weightSum o_toPass o_foundNumber o_foundWeight o_foundTurns o_foundSlowed (upd o_howFar v1.toNatClampNeg (-1)) o_tones) := hD
        refine lv_aload_n hx hb dX5_leaveOutRings_15 rfl (lv_at hl 0 rfl) ?_
        refine va_get (D := (dC, dI)) (ci := 5) (v := .ref a_o_tones) (C := RX5) (T := TX5) (N := 20) hx hb hts hi5 hown hK hP 0 rfl rfl 1 (by decide) hq2 (fun _ h9 => h9) rfl dX5_leaveOutRings_16 ?_
        refine lv_iload_n hx hb dX5_leaveOutRings_19 rfl (lv_at hl 1 rfl) ?_
        refine lv_iconst (v := 0) hx hb dX5_leaveOutRings_20 (by decide) ?_
        obtain ⟨h_3, hw⟩ := okC hw
        refine va_iast (i := v1) (x := 0) hx hb hK hP hD hS 2 0 rfl rfl h_3 dX5_leaveOutRings_21 (fun H locs hP hD hS => ?_)
        have hP : va_P (dC, dI) vwCl (W_X5_leaveOutRings cyI cyJ cyO h_o a_o_howFar a_o_tones a_o_only a_o_fars a_o_cellAt a_o_ends a_o_seen a_o_begun o_last o_turnsLet o_slowsLet o_fuel o_glide o_count o_weightSum o_toPass o_foundNumber o_foundWeight o_foundTurns o_foundSlowed (upd o_howFar v1.toNatClampNeg (-1)) (upd o_tones v1.toNatClampNeg 0)) H := hP
        have hD : va_D A (W_X5_leaveOutRings cyI cyJ cyO h_o a_o_howFar a_o_tones a_o_only a_o_fars a_o_cellAt a_o_ends a_o_seen a_o_begun o_last o_turnsLet o_slowsLet o_fuel o_glide o_count o_weightSum o_toPass o_foundNumber o_foundWeight o_foundTurns o_foundSlowed (upd o_howFar v1.toNatClampNeg (-1)) (upd o_tones v1.toNatClampNeg 0)) := hD
        obtain ⟨x_4, ex_4⟩ : ∃ y : Int32, y = v1 + 1 := ⟨_, rfl⟩
        replace hw := okN ex_4 hw
        refine lv_iinc (v := x_4) (lv' := [(1, .int x_4), (0, .ref h_o)]) hx hb dX5_leaveOutRings_22 hl (k := 1) rfl (by rw [ex_4]; rfl) (by decide) rfl (fun ls hl => ?_)
        clear ex_4
        refine lv_goto (tgt := 2) hx hb dX5_leaveOutRings_25 (by decide) ?_
        exact ih2 x_4 (upd o_howFar v1.toNatClampNeg (-1)) (upd o_tones v1.toNatClampNeg 0) _ _ hP hD hS _ (lv_sub hl [1, 0] rfl) hw
  unfold f_X5_leaveOutRings at hw
  have hP : va_P (dC, dI) vwCl (W_X5_leaveOutRings cyI cyJ cyO h_o a_o_howFar a_o_tones a_o_only a_o_fars a_o_cellAt a_o_ends a_o_seen a_o_begun o_last o_turnsLet o_slowsLet o_fuel o_glide o_count o_weightSum o_toPass o_foundNumber o_foundWeight o_foundTurns o_foundSlowed o_howFar o_tones) s.heap := hP
  obtain ⟨H, hH⟩ : ∃ H, H = s.heap := ⟨_, rfl⟩
  obtain ⟨locs, hlo⟩ : ∃ x : List Loc, x = [] := ⟨_, rfl⟩
  have hP : va_P (dC, dI) vwCl (W_X5_leaveOutRings cyI cyJ cyO h_o a_o_howFar a_o_tones a_o_only a_o_fars a_o_cellAt a_o_ends a_o_seen a_o_begun o_last o_turnsLet o_slowsLet o_fuel o_glide o_count o_weightSum o_toPass o_foundNumber o_foundWeight o_foundTurns o_foundSlowed o_howFar o_tones) H := by rw [hH]; exact hP
  have hS : va_S A s.heap H locs := by rw [hH, hlo]; exact hS
  refine kH hH hlo ?_
  clear hH hlo
  refine lv_iconst (v := 0) hx hb dX5_leaveOutRings_0 (by decide) ?_
  refine lv_istore_n (lv' := [(1, .int 0), (0, .ref h_o)]) hx hb dX5_leaveOutRings_1 rfl hl (by decide) rfl (fun ls hl => ?_)
  exact w2 FU 0 o_howFar o_tones _ _ hP hD hS _ (lv_sub hl [1, 0] rfl) hw
/-! ===== X5_keepTo ===== -/
theorem dX5_keepTo_0 : decode cX5_keepTo 0 = .ok (.iconst 0, 1) := by decide +kernel
theorem dX5_keepTo_1 : decode cX5_keepTo 1 = .ok (.istore_n 3, 1) := by decide +kernel
theorem dX5_keepTo_2 : decode cX5_keepTo 2 = .ok (.iload_n 3, 1) := by decide +kernel
theorem dX5_keepTo_3 : decode cX5_keepTo 3 = .ok (.aload_n 0, 1) := by decide +kernel
theorem dX5_keepTo_4 : decode cX5_keepTo 4 = .ok (.getfield 24, 3) := by decide +kernel
theorem dX5_keepTo_7 : decode cX5_keepTo 7 = .ok (.if_icmp .gt 45, 3) := by decide +kernel
theorem dX5_keepTo_10 : decode cX5_keepTo 10 = .ok (.iload_n 3, 1) := by decide +kernel
theorem dX5_keepTo_11 : decode cX5_keepTo 11 = .ok (.bipush 6, 2) := by decide +kernel
theorem dX5_keepTo_13 : decode cX5_keepTo 13 = .ok (.if_icmp .gt 39, 3) := by decide +kernel
theorem dX5_keepTo_16 : decode cX5_keepTo 16 = .ok (.aload_n 1, 1) := by decide +kernel
theorem dX5_keepTo_17 : decode cX5_keepTo 17 = .ok (.iload_n 2, 1) := by decide +kernel
theorem dX5_keepTo_18 : decode cX5_keepTo 18 = .ok (.iload_n 3, 1) := by decide +kernel
theorem dX5_keepTo_19 : decode cX5_keepTo 19 = .ok (.iadd, 1) := by decide +kernel
theorem dX5_keepTo_20 : decode cX5_keepTo 20 = .ok (.invokevirtual 90, 3) := by decide +kernel
theorem dX5_keepTo_23 : decode cX5_keepTo 23 = .ok (.istore 4, 2) := by decide +kernel
theorem dX5_keepTo_25 : decode cX5_keepTo 25 = .ok (.aload_n 0, 1) := by decide +kernel
theorem dX5_keepTo_26 : decode cX5_keepTo 26 = .ok (.getfield 18, 3) := by decide +kernel
theorem dX5_keepTo_29 : decode cX5_keepTo 29 = .ok (.iload_n 3, 1) := by decide +kernel
theorem dX5_keepTo_30 : decode cX5_keepTo 30 = .ok (.iload 4, 2) := by decide +kernel
theorem dX5_keepTo_32 : decode cX5_keepTo 32 = .ok (.invokestatic 96, 3) := by decide +kernel
theorem dX5_keepTo_35 : decode cX5_keepTo 35 = .ok (.ifCond .eq 8, 3) := by decide +kernel
theorem dX5_keepTo_38 : decode cX5_keepTo 38 = .ok (.iload 4, 2) := by decide +kernel
theorem dX5_keepTo_40 : decode cX5_keepTo 40 = .ok (.goto 5, 3) := by decide +kernel
theorem dX5_keepTo_43 : decode cX5_keepTo 43 = .ok (.bipush 100, 2) := by decide +kernel
theorem dX5_keepTo_45 : decode cX5_keepTo 45 = .ok (.iastore, 1) := by decide +kernel
theorem dX5_keepTo_46 : decode cX5_keepTo 46 = .ok (.iinc 3 1, 3) := by decide +kernel
theorem dX5_keepTo_49 : decode cX5_keepTo 49 = .ok (.goto (-47), 3) := by decide +kernel
theorem dX5_keepTo_52 : decode cX5_keepTo 52 = .ok (.return_, 1) := by decide +kernel
abbrev W_X5_keepTo (cyI cyJ cyO : ClassId) (h_o h_p1 a_o_howFar a_o_tones a_o_only a_o_fars a_o_cellAt a_o_ends a_o_seen a_o_begun a_p1_items : Nat) (o_last : Int32) (o_turnsLet : Int32) (o_slowsLet : Int32) (o_fuel : Int32) (o_glide : Int32) (o_count : Int32) (o_weightSum : Int64) (o_toPass : Int32) (o_foundNumber : Int32) (o_foundWeight : Int32) (o_foundTurns : Int32) (o_foundSlowed : Int32) (o_only : Nat → Int32) (p1_lane : Int32) (p1_size : Int32) (p1_items : Nat → Int32) : va_W := [(h_o, .inr (5, [.ref a_o_howFar, .ref a_o_tones, .ref a_o_only, .ref a_o_fars, .int o_last, .int o_turnsLet, .int o_slowsLet, .int o_fuel, .int o_glide, .ref a_o_cellAt, .ref a_o_ends, .ref a_o_seen, .ref a_o_begun, .int o_count, .long o_weightSum, .int o_toPass, .int o_foundNumber, .int o_foundWeight, .int o_foundTurns, .int o_foundSlowed])), (a_o_only, .inl (cyI, 7, .inl o_only)), (h_p1, .inr (2, [.ref a_p1_items, .int p1_lane, .int p1_size])), (a_p1_items, .inl (cyI, 16, .inl p1_items))]
def f_X5_keepTo_B45 (k2 : Int32 → Int32 → Int32 → (Nat → Int32) → Int32 → (Nat → Int32) → Option ((Nat → Int32))) (v2 : Int32) (v3 : Int32) (y0 : Int32) (y1 : Int32) (o_last : Int32) (o_only : Nat → Int32) (p1_size : Int32) (p1_items : Nat → Int32) : Option ((Nat → Int32)) :=
  chk (¬ (y1 < 0 ∨ 7 ≤ y1.toNatClampNeg)) <|
  nm (v3 + 1) fun x_1 =>
  k2 v2 x_1 o_last (upd o_only y1.toNatClampNeg y0) p1_size p1_items
def f_X5_keepTo_L2b (k2 : Int32 → Int32 → Int32 → (Nat → Int32) → Int32 → (Nat → Int32) → Option ((Nat → Int32))) (v2 : Int32) (v3 : Int32) (o_last : Int32) (o_only : Nat → Int32) (p1_size : Int32) (p1_items : Nat → Int32) : Option ((Nat → Int32)) :=
  if o_last < v3 then
    some o_only
  else
    if 6 < v3 then
      some o_only
    else
      bd1 (f_X2_at (v2 + v3) p1_size p1_items) fun r_2 =>
      bd1 (f_X6_isCell r_2) fun r_3 =>
      if r_3 = 0 then
        f_X5_keepTo_B45 k2 v2 v3 100 v3 o_last o_only p1_size p1_items
      else
        f_X5_keepTo_B45 k2 v2 v3 r_2 v3 o_last o_only p1_size p1_items
def f_X5_keepTo_L2 : Nat → Int32 → Int32 → Int32 → (Nat → Int32) → Int32 → (Nat → Int32) → Option ((Nat → Int32))
  | 0 => fun _ _ _ _ _ _ => none
  | n + 1 => f_X5_keepTo_L2b (f_X5_keepTo_L2 n)
def f_X5_keepTo (x2 : Int32) (o_last : Int32) (o_only : Nat → Int32) (p1_size : Int32) (p1_items : Nat → Int32) : Option ((Nat → Int32)) :=
  f_X5_keepTo_L2 FU x2 0 o_last o_only p1_size p1_items
abbrev rm_X5_keepTo : Room := { frames := 2, cells := 0, slots := 0, locals := 43 }
set_option maxRecDepth 100000 in
set_option maxHeartbeats 4000000 in
theorem c_X5_keepTo (l : Launch) (dC : Nat → ClassId) (dI : Nat → Nat → Nat) (cyI cyJ cyO : ClassId) (sz : Nat) (tD tR tL tM : Nat) (h_o h_p1 a_o_howFar a_o_tones a_o_only a_o_fars a_o_cellAt a_o_ends a_o_seen a_o_begun a_p1_items : Nat) (o_last : Int32) (o_turnsLet : Int32) (o_slowsLet : Int32) (o_fuel : Int32) (o_glide : Int32) (o_count : Int32) (o_weightSum : Int64) (o_toPass : Int32) (o_foundNumber : Int32) (o_foundWeight : Int32) (o_foundTurns : Int32) (o_foundSlowed : Int32) (o_only : Nat → Int32) (p1_lane : Int32) (p1_size : Int32) (p1_items : Nat → Int32) (x2 : Int32) (post : ((Nat → Int32)) → Prop) (hf : okP (f_X5_keepTo x2 o_last o_only p1_size p1_items) post) : Cv l (dC, dI) (tyL cyI cyJ cyO) yX5_keepTo wsX5_keepTo rm_X5_keepTo [.ref h_o, .ref h_p1, .int x2] sz (W_X5_keepTo cyI cyJ cyO h_o h_p1 a_o_howFar a_o_tones a_o_only a_o_fars a_o_cellAt a_o_ends a_o_seen a_o_begun a_p1_items o_last o_turnsLet o_slowsLet o_fuel o_glide o_count o_weightSum o_toPass o_foundNumber o_foundWeight o_foundTurns o_foundSlowed o_only p1_lane p1_size p1_items) (zX tD tR tL tM) (fun u => post u) (fun u => (W_X5_keepTo cyI cyJ cyO h_o h_p1 a_o_howFar a_o_tones a_o_only a_o_fars a_o_cellAt a_o_ends a_o_seen a_o_begun a_p1_items o_last o_turnsLet o_slowsLet o_fuel o_glide o_count o_weightSum o_toPass o_foundNumber o_foundWeight o_foundTurns o_foundSlowed u p1_lane p1_size p1_items)) := by
  refine Met.ofW (cc := cX5_keepTo) (maxL := 5) (ret := none) (by decide) rfl ?_
  intro p e s m args below meth c s₁ B hml hv
  obtain ⟨rfl, hsz, hP, hK, hD0, hZ⟩ := hv
  have hx := B.exec
  have hb := B.bytes
  have hr := B.returns
  have hts := atoms_spec (ws := wsX5_keepTo) B.pre
  have hown : s.vm.findClass RX5 = some m.cls := findClass_of_methodNamed B.named
  have hlocks := B.notSynchronized
  subst hsz
  have hD := hD0.self (sz := s.heap.size)
  generalize hAe : va_A (W_X5_keepTo cyI cyJ cyO h_o h_p1 a_o_howFar a_o_tones a_o_only a_o_fars a_o_cellAt a_o_ends a_o_seen a_o_begun a_p1_items o_last o_turnsLet o_slowsLet o_fuel o_glide o_count o_weightSum o_toPass o_foundNumber o_foundWeight o_foundTurns o_foundSlowed o_only p1_lane p1_size p1_items) s.heap.size = A at hD hZ ⊢
  have hA : ∀ q : Nat, s.heap.size ≤ q → A q := fun q h => by rw [← hAe]; exact Or.inr h
  clear hAe hD0
  have hS : va_S A s.heap s.heap [] := va_S.rf
  have hl := lv_entry ([.ref h_o, .ref h_p1, .int x2]) (n := 5) (Nat.le_of_ble_eq_true rfl)
  rw [lg_entry_eq]
  generalize (lg_sl ([.ref h_o, .ref h_p1, .int x2]) ++ List.replicate (5 - (lg_sl ([.ref h_o, .ref h_p1, .int x2])).length) Slot.unset).toArray = ls at hl ⊢
  have hl : lv_has ls 5 [(0, .ref h_o), (1, .ref h_p1), (2, .int x2)] := hl
  refine kW (fun Q hQ => ?_)
  have hq0 := hts _ (List.mem_cons_of_mem _ q_121)
  have hi5 : ∀ w ∈ u_ws RX5 TX5 20, w ∈ wsX5_keepTo := fun w h => List.mem_cons_of_mem _ (inX5 w h)
  have hq2 := hts _ (List.mem_cons_of_mem _ q_119)
  have hq3 := hts _ (List.mem_cons_of_mem _ q_1)
  have hq4 := hts _ (List.mem_cons_of_mem _ q_333)
  have hw := hf
  have w2 : ∀ (n : Nat), ∀ (v2 : Int32) (v3 : Int32) (o_only : Nat → Int32) (H : Heap) (locs : List Loc), va_P (dC, dI) vwCl (W_X5_keepTo cyI cyJ cyO h_o h_p1 a_o_howFar a_o_tones a_o_only a_o_fars a_o_cellAt a_o_ends a_o_seen a_o_begun a_p1_items o_last o_turnsLet o_slowsLet o_fuel o_glide o_count o_weightSum o_toPass o_foundNumber o_foundWeight o_foundTurns o_foundSlowed o_only p1_lane p1_size p1_items) H → va_D A (W_X5_keepTo cyI cyJ cyO h_o h_p1 a_o_howFar a_o_tones a_o_only a_o_fars a_o_cellAt a_o_ends a_o_seen a_o_begun a_p1_items o_last o_turnsLet o_slowsLet o_fuel o_glide o_count o_weightSum o_toPass o_foundNumber o_foundWeight o_foundTurns o_foundSlowed o_only p1_lane p1_size p1_items) → va_S A s.heap H locs → ∀ (ls : Array Slot), lv_has ls 5 [(0, .ref h_o), (1, .ref h_p1), (2, .int v2), (3, .int v3)] → okP (f_X5_keepTo_L2 n v2 v3 o_last o_only p1_size p1_items) post → W p l e (headSpec wsX5_keepTo rm_X5_keepTo).room s m ([.ref h_o, .ref h_p1, .int x2] : List Value).toArray below meth c H locs 0 0 Q (F0 m 2 ls []) := by
    intro n
    induction n with
    | zero =>
      intro v2 v3 o_only H locs hP hD hS ls hl hw
      exact (ok0 hw).elim
    | succ n2 ih2 =>
      have w45 : ∀ (v2 : Int32) (v3 : Int32) (y0 : Int32) (y1 : Int32) (o_only : Nat → Int32) (H : Heap) (locs : List Loc), va_P (dC, dI) vwCl (W_X5_keepTo cyI cyJ cyO h_o h_p1 a_o_howFar a_o_tones a_o_only a_o_fars a_o_cellAt a_o_ends a_o_seen a_o_begun a_p1_items o_last o_turnsLet o_slowsLet o_fuel o_glide o_count o_weightSum o_toPass o_foundNumber o_foundWeight o_foundTurns o_foundSlowed o_only p1_lane p1_size p1_items) H → va_D A (W_X5_keepTo cyI cyJ cyO h_o h_p1 a_o_howFar a_o_tones a_o_only a_o_fars a_o_cellAt a_o_ends a_o_seen a_o_begun a_p1_items o_last o_turnsLet o_slowsLet o_fuel o_glide o_count o_weightSum o_toPass o_foundNumber o_foundWeight o_foundTurns o_foundSlowed o_only p1_lane p1_size p1_items) → va_S A s.heap H locs → ∀ (ls : Array Slot), lv_has ls 5 [(0, .ref h_o), (1, .ref h_p1), (2, .int v2), (3, .int v3)] → okP (f_X5_keepTo_B45 (f_X5_keepTo_L2 n2) v2 v3 y0 y1 o_last o_only p1_size p1_items) post → W p l e (headSpec wsX5_keepTo rm_X5_keepTo).room s m ([.ref h_o, .ref h_p1, .int x2] : List Value).toArray below meth c H locs 0 0 Q (F0 m 45 ls [.int y0, .int y1, .ref a_o_only]) := by
        intro v2 v3 y0 y1 o_only H locs hP hD hS ls hl hw
        unfold f_X5_keepTo_B45 at hw
        obtain ⟨h_1, hw⟩ := okC hw
        refine va_iast (i := y1) (x := y0) hx hb hK hP hD hS 1 0 rfl rfl h_1 dX5_keepTo_45 (fun H locs hP hD hS => ?_)
        have hP : va_P (dC, dI) vwCl (W_X5_keepTo cyI cyJ cyO h_o h_p1 a_o_howFar a_o_tones a_o_only a_o_fars a_o_cellAt a_o_ends a_o_seen a_o_begun a_p1_items o_last o_turnsLet o_slowsLet o_fuel o_glide o_count o_weightSum o_toPass o_foundNumber o_foundWeight o_foundTurns o_foundSlowed (upd o_only y1.toNatClampNeg y0) p1_lane p1_size p1_items) H := hP
        have hD : va_D A (W_X5_keepTo cyI cyJ cyO h_o h_p1 a_o_howFar a_o_tones a_o_only a_o_fars a_o_cellAt a_o_ends a_o_seen a_o_begun a_p1_items o_last o_turnsLet o_slowsLet o_fuel o_glide o_count o_weightSum o_toPass o_foundNumber o_foundWeight o_foundTurns o_foundSlowed (upd o_only y1.toNatClampNeg y0) p1_lane p1_size p1_items) := hD
        obtain ⟨x_2, ex_2⟩ : ∃ y : Int32, y = v3 + 1 := ⟨_, rfl⟩
        replace hw := okN ex_2 hw
        refine lv_iinc (v := x_2) (lv' := [(3, .int x_2), (0, .ref h_o), (1, .ref h_p1), (2, .int v2)]) hx hb dX5_keepTo_46 hl (k := 3) rfl (by rw [ex_2]; rfl) (by decide) rfl (fun ls hl => ?_)
        clear ex_2
        refine lv_goto (tgt := 2) hx hb dX5_keepTo_49 (by decide) ?_
        exact ih2 v2 x_2 (upd o_only y1.toNatClampNeg y0) _ _ hP hD hS _ (lv_sub hl [1, 2, 3, 0] rfl) hw
      intro v2 v3 o_only H locs hP hD hS ls hl hw
      replace hw : okP (f_X5_keepTo_L2b (f_X5_keepTo_L2 n2) v2 v3 o_last o_only p1_size p1_items) post := hw
      unfold f_X5_keepTo_L2b at hw
      refine lv_iload_n hx hb dX5_keepTo_2 rfl (lv_at hl 3 rfl) ?_
      refine lv_aload_n hx hb dX5_keepTo_3 rfl (lv_at hl 0 rfl) ?_
      refine va_get (D := (dC, dI)) (ci := 5) (v := .int o_last) (C := RX5) (T := TX5) (N := 20) hx hb hts hi5 hown hK hP 0 rfl rfl 4 (by decide) hq0 (fun _ h9 => h9) rfl dX5_keepTo_4 ?_
      refine lv_icmp_gt (tgt := 52) hx hb dX5_keepTo_7 (by decide) (fun c_3 => ?_) (fun c_3 => ?_)
      · replace hw := okT hw c_3
        clear c_3
        rw [hQ]
        exact W.vret hx hb hr (fun t ht hW => ⟨⟨o_only, rfl, okS hw, by rw [ht]; exact hP, va_K.moved hW.alike hK, hD⟩, hS.F ht⟩) hS.2.2 dX5_keepTo_52
      · replace hw := okF hw c_3
        clear c_3
        refine lv_iload_n hx hb dX5_keepTo_10 rfl (lv_at hl 3 rfl) ?_
        refine lv_bipush (v := 6) hx hb dX5_keepTo_11 (by decide) ?_
        refine lv_icmp_gt (tgt := 52) hx hb dX5_keepTo_13 (by decide) (fun c_4 => ?_) (fun c_4 => ?_)
        · replace hw := okT hw c_4
          clear c_4
          rw [hQ]
          exact W.vret hx hb hr (fun t ht hW => ⟨⟨o_only, rfl, okS hw, by rw [ht]; exact hP, va_K.moved hW.alike hK, hD⟩, hS.F ht⟩) hS.2.2 dX5_keepTo_52
        · replace hw := okF hw c_4
          clear c_4
          refine lv_aload_n hx hb dX5_keepTo_16 rfl (lv_at hl 1 rfl) ?_
          refine lv_iload_n hx hb dX5_keepTo_17 rfl (lv_at hl 2 rfl) ?_
          refine lv_iload_n hx hb dX5_keepTo_18 rfl (lv_at hl 3 rfl) ?_
          refine lv_iadd hx hb dX5_keepTo_19 ?_
          have hPc := hP.sub (ws' := (W_X2_at cyI cyJ cyO h_p1 a_p1_items p1_lane p1_size p1_items)) [2, 3] rfl
          have hDc := hD.sub (ws' := (W_X2_at cyI cyJ cyO h_p1 a_p1_items p1_lane p1_size p1_items)) [2, 3] (by decide +kernel) rfl
          have hFc := va_free (wc := (W_X2_at cyI cyJ cyO h_p1 a_p1_items p1_lane p1_size p1_items)) hD hS hA [2, 3] rfl
          refine kc_i (wr := [(h_o, .inr (5, [.ref a_o_howFar, .ref a_o_tones, .ref a_o_only, .ref a_o_fars, .int o_last, .int o_turnsLet, .int o_slowsLet, .int o_fuel, .int o_glide, .ref a_o_cellAt, .ref a_o_ends, .ref a_o_seen, .ref a_o_begun, .int o_count, .long o_weightSum, .int o_toPass, .int o_foundNumber, .int o_foundWeight, .int o_foundTurns, .int o_foundSlowed])), (a_o_only, .inl (cyI, 7, .inl o_only))]) (va_runV (As := [.int (v2 + v3)]) (rest := []) ⟨hx, hb, hml, hown, hts⟩ (c_X2_at l dC dI cyI cyJ cyO H.size h_p1 a_p1_items p1_lane p1_size p1_items (v2 + v3) _ (okb1 hw)) (cwV 1 hts (gdV (fun w h => List.mem_cons_of_mem _ h) q_648 q_636 q_637 q_7 q_638) rfl rfl rfl (by decide +kernel) ⟨Nat.le_of_ble_eq_true rfl, Nat.le_of_ble_eq_true rfl⟩) ⟨(kpre zN_ok hK hPc hDc trivial hS hFc).1, va_recv hK hP (ci := 2) (q0 := 2) rfl rfl, (kpre zN_ok hK hPc hDc trivial hS hFc).2⟩ rfl rfl hl.1 rfl (lv_room (Nat.le_of_ble_eq_true rfl)) dX5_keepTo_20 ⟨Nat.le_of_ble_eq_true rfl, Nat.le_of_ble_eq_true rfl⟩) hP hD hS hFc [2, 3] [0, 1] rfl rfl (by decide +kernel) (by decide +kernel) (fun r_5 u H locs hw hP hD hS => ?_)
          try dsimp only at hw
          have hP : va_P (dC, dI) vwCl (W_X5_keepTo cyI cyJ cyO h_o h_p1 a_o_howFar a_o_tones a_o_only a_o_fars a_o_cellAt a_o_ends a_o_seen a_o_begun a_p1_items o_last o_turnsLet o_slowsLet o_fuel o_glide o_count o_weightSum o_toPass o_foundNumber o_foundWeight o_foundTurns o_foundSlowed o_only p1_lane p1_size p1_items) H := hP.sub [0, 1, 2, 3] rfl
          have hD : va_D A (W_X5_keepTo cyI cyJ cyO h_o h_p1 a_o_howFar a_o_tones a_o_only a_o_fars a_o_cellAt a_o_ends a_o_seen a_o_begun a_p1_items o_last o_turnsLet o_slowsLet o_fuel o_glide o_count o_weightSum o_toPass o_foundNumber o_foundWeight o_foundTurns o_foundSlowed o_only p1_lane p1_size p1_items) := hD.sub [0, 1, 2, 3] (by decide +kernel) rfl
          clear hPc hDc hFc
          refine lv_istore (lv' := [(4, .int r_5), (0, .ref h_o), (1, .ref h_p1), (2, .int v2), (3, .int v3)]) hx hb dX5_keepTo_23 hl (by decide) rfl (fun ls hl => ?_)
          refine lv_aload_n hx hb dX5_keepTo_25 rfl (lv_at hl 1 rfl) ?_
          refine va_get (D := (dC, dI)) (ci := 5) (v := .ref a_o_only) (C := RX5) (T := TX5) (N := 20) hx hb hts hi5 hown hK hP 0 rfl rfl 2 (by decide) hq2 (fun _ h9 => h9) rfl dX5_keepTo_26 ?_
          refine lv_iload_n hx hb dX5_keepTo_29 rfl (lv_at hl 4 rfl) ?_
          refine lv_iload hx hb dX5_keepTo_30 (lv_at hl 0 rfl) ?_
          have hFc := va_free (wc := []) hD hS hA [] rfl
          refine kp_i (va_runSN (As := [.int r_5]) (rest := [.int v3, .ref a_o_only]) ⟨hx, hb, hml, hown, hts⟩ (c_X6_isCell l dC dI cyI cyJ cyO H.size r_5 _ (okb1 hw)) ⟨va_cnB 1 hts (gdN (fun w h => List.mem_cons_of_mem _ h) q_334) rfl rfl rfl hZ.2.2.2.2.2.2.2.2.2.2.1 hq3 (by decide +kernel) ⟨Nat.le_of_ble_eq_true rfl, Nat.le_of_ble_eq_true rfl⟩, hq4, trivial⟩ (kpre zN_ok hK va_P0 va_D0 trivial hS hFc) rfl rfl hl.1 rfl (lv_room (Nat.le_of_ble_eq_true rfl)) dX5_keepTo_32 ⟨Nat.le_of_ble_eq_true rfl, Nat.le_of_ble_eq_true rfl⟩) hP hD hS hFc (fun r_6 H locs hw hP hS => ?_)
          try dsimp only at hw
          clear hFc
          refine lv_if_eq (tgt := 43) hx hb dX5_keepTo_35 (by decide) (fun c_7 => ?_) (fun c_7 => ?_)
          · replace hw := okT hw c_7
            clear c_7
            refine lv_bipush (v := 100) hx hb dX5_keepTo_43 (by decide) ?_
            exact w45 v2 v3 100 v3 o_only _ _ hP hD hS _ (lv_sub hl [1, 2, 3, 4] rfl) hw
          · replace hw := okF hw c_7
            clear c_7
            refine lv_iload hx hb dX5_keepTo_38 (lv_at hl 0 rfl) ?_
            refine lv_goto (tgt := 45) hx hb dX5_keepTo_40 (by decide) ?_
            exact w45 v2 v3 r_5 v3 o_only _ _ hP hD hS _ (lv_sub hl [1, 2, 3, 4] rfl) hw
  unfold f_X5_keepTo at hw
  have hP : va_P (dC, dI) vwCl (W_X5_keepTo cyI cyJ cyO h_o h_p1 a_o_howFar a_o_tones a_o_only a_o_fars a_o_cellAt a_o_ends a_o_seen a_o_begun a_p1_items o_last o_turnsLet o_slowsLet o_fuel o_glide o_count o_weightSum o_toPass o_foundNumber o_foundWeight o_foundTurns o_foundSlowed o_only p1_lane p1_size p1_items) s.heap := hP
  obtain ⟨H, hH⟩ : ∃ H, H = s.heap := ⟨_, rfl⟩
  obtain ⟨locs, hlo⟩ : ∃ x : List Loc, x = [] := ⟨_, rfl⟩
  have hP : va_P (dC, dI) vwCl (W_X5_keepTo cyI cyJ cyO h_o h_p1 a_o_howFar a_o_tones a_o_only a_o_fars a_o_cellAt a_o_ends a_o_seen a_o_begun a_p1_items o_last o_turnsLet o_slowsLet o_fuel o_glide o_count o_weightSum o_toPass o_foundNumber o_foundWeight o_foundTurns o_foundSlowed o_only p1_lane p1_size p1_items) H := by rw [hH]; exact hP
  have hS : va_S A s.heap H locs := by rw [hH, hlo]; exact hS
  refine kH hH hlo ?_
  clear hH hlo
  refine lv_iconst (v := 0) hx hb dX5_keepTo_0 (by decide) ?_
  refine lv_istore_n (lv' := [(3, .int 0), (0, .ref h_o), (1, .ref h_p1), (2, .int x2)]) hx hb dX5_keepTo_1 rfl hl (by decide) rfl (fun ls hl => ?_)
  exact w2 FU x2 0 o_only _ _ hP hD hS _ (lv_sub hl [1, 2, 3, 0] rfl) hw
/-! ===== X5_takeRingsOf ===== -/
theorem dX5_takeRingsOf_0 : decode cX5_takeRingsOf 0 = .ok (.aload_n 0, 1) := by decide +kernel
theorem dX5_takeRingsOf_1 : decode cX5_takeRingsOf 1 = .ok (.invokevirtual 100, 3) := by decide +kernel
theorem dX5_takeRingsOf_4 : decode cX5_takeRingsOf 4 = .ok (.iconst 1, 1) := by decide +kernel
theorem dX5_takeRingsOf_5 : decode cX5_takeRingsOf 5 = .ok (.istore_n 3, 1) := by decide +kernel
theorem dX5_takeRingsOf_6 : decode cX5_takeRingsOf 6 = .ok (.iload_n 3, 1) := by decide +kernel
theorem dX5_takeRingsOf_7 : decode cX5_takeRingsOf 7 = .ok (.aload_n 0, 1) := by decide +kernel
theorem dX5_takeRingsOf_8 : decode cX5_takeRingsOf 8 = .ok (.getfield 24, 3) := by decide +kernel
theorem dX5_takeRingsOf_11 : decode cX5_takeRingsOf 11 = .ok (.if_icmp .gt 49, 3) := by decide +kernel
theorem dX5_takeRingsOf_14 : decode cX5_takeRingsOf 14 = .ok (.iload_n 3, 1) := by decide +kernel
theorem dX5_takeRingsOf_15 : decode cX5_takeRingsOf 15 = .ok (.bipush 6, 2) := by decide +kernel
theorem dX5_takeRingsOf_17 : decode cX5_takeRingsOf 17 = .ok (.if_icmp .gt 43, 3) := by decide +kernel
theorem dX5_takeRingsOf_20 : decode cX5_takeRingsOf 20 = .ok (.aload_n 1, 1) := by decide +kernel
theorem dX5_takeRingsOf_21 : decode cX5_takeRingsOf 21 = .ok (.iload_n 2, 1) := by decide +kernel
theorem dX5_takeRingsOf_22 : decode cX5_takeRingsOf 22 = .ok (.iload_n 3, 1) := by decide +kernel
theorem dX5_takeRingsOf_23 : decode cX5_takeRingsOf 23 = .ok (.iadd, 1) := by decide +kernel
theorem dX5_takeRingsOf_24 : decode cX5_takeRingsOf 24 = .ok (.invokevirtual 90, 3) := by decide +kernel
theorem dX5_takeRingsOf_27 : decode cX5_takeRingsOf 27 = .ok (.istore 4, 2) := by decide +kernel
theorem dX5_takeRingsOf_29 : decode cX5_takeRingsOf 29 = .ok (.aload_n 0, 1) := by decide +kernel
theorem dX5_takeRingsOf_30 : decode cX5_takeRingsOf 30 = .ok (.getfield 9, 3) := by decide +kernel
theorem dX5_takeRingsOf_33 : decode cX5_takeRingsOf 33 = .ok (.iload_n 3, 1) := by decide +kernel
theorem dX5_takeRingsOf_34 : decode cX5_takeRingsOf 34 = .ok (.iload 4, 2) := by decide +kernel
theorem dX5_takeRingsOf_36 : decode cX5_takeRingsOf 36 = .ok (.invokestatic 96, 3) := by decide +kernel
theorem dX5_takeRingsOf_39 : decode cX5_takeRingsOf 39 = .ok (.ifCond .eq 13, 3) := by decide +kernel
theorem dX5_takeRingsOf_42 : decode cX5_takeRingsOf 42 = .ok (.aload_n 0, 1) := by decide +kernel
theorem dX5_takeRingsOf_43 : decode cX5_takeRingsOf 43 = .ok (.getfield 21, 3) := by decide +kernel
theorem dX5_takeRingsOf_46 : decode cX5_takeRingsOf 46 = .ok (.iload 4, 2) := by decide +kernel
theorem dX5_takeRingsOf_48 : decode cX5_takeRingsOf 48 = .ok (.iaload, 1) := by decide +kernel
theorem dX5_takeRingsOf_49 : decode cX5_takeRingsOf 49 = .ok (.goto 4, 3) := by decide +kernel
theorem dX5_takeRingsOf_52 : decode cX5_takeRingsOf 52 = .ok (.iconst (-1), 1) := by decide +kernel
theorem dX5_takeRingsOf_53 : decode cX5_takeRingsOf 53 = .ok (.iastore, 1) := by decide +kernel
theorem dX5_takeRingsOf_54 : decode cX5_takeRingsOf 54 = .ok (.iinc 3 1, 3) := by decide +kernel
theorem dX5_takeRingsOf_57 : decode cX5_takeRingsOf 57 = .ok (.goto (-51), 3) := by decide +kernel
theorem dX5_takeRingsOf_60 : decode cX5_takeRingsOf 60 = .ok (.return_, 1) := by decide +kernel
abbrev W_X5_takeRingsOf (cyI cyJ cyO : ClassId) (h_o h_p1 a_o_howFar a_o_tones a_o_only a_o_fars a_o_cellAt a_o_ends a_o_seen a_o_begun a_p1_items : Nat) (o_last : Int32) (o_turnsLet : Int32) (o_slowsLet : Int32) (o_fuel : Int32) (o_glide : Int32) (o_count : Int32) (o_weightSum : Int64) (o_toPass : Int32) (o_foundNumber : Int32) (o_foundWeight : Int32) (o_foundTurns : Int32) (o_foundSlowed : Int32) (o_howFar : Nat → Int32) (o_tones : Nat → Int32) (o_fars : Nat → Int32) (p1_lane : Int32) (p1_size : Int32) (p1_items : Nat → Int32) : va_W := [(h_o, .inr (5, [.ref a_o_howFar, .ref a_o_tones, .ref a_o_only, .ref a_o_fars, .int o_last, .int o_turnsLet, .int o_slowsLet, .int o_fuel, .int o_glide, .ref a_o_cellAt, .ref a_o_ends, .ref a_o_seen, .ref a_o_begun, .int o_count, .long o_weightSum, .int o_toPass, .int o_foundNumber, .int o_foundWeight, .int o_foundTurns, .int o_foundSlowed])), (a_o_howFar, .inl (cyI, 7, .inl o_howFar)), (a_o_tones, .inl (cyI, 7, .inl o_tones)), (a_o_fars, .inl (cyI, 100, .inl o_fars)), (h_p1, .inr (2, [.ref a_p1_items, .int p1_lane, .int p1_size])), (a_p1_items, .inl (cyI, 16, .inl p1_items))]
def f_X5_takeRingsOf_B53 (k6 : Int32 → Int32 → Int32 → (Nat → Int32) → (Nat → Int32) → (Nat → Int32) → Int32 → (Nat → Int32) → Option ((Nat → Int32) × (Nat → Int32))) (v2 : Int32) (v3 : Int32) (y0 : Int32) (y1 : Int32) (o_last : Int32) (o_howFar : Nat → Int32) (o_tones : Nat → Int32) (o_fars : Nat → Int32) (p1_size : Int32) (p1_items : Nat → Int32) : Option ((Nat → Int32) × (Nat → Int32)) :=
  chk (¬ (y1 < 0 ∨ 7 ≤ y1.toNatClampNeg)) <|
  nm (v3 + 1) fun x_1 =>
  k6 v2 x_1 o_last (upd o_howFar y1.toNatClampNeg y0) o_tones o_fars p1_size p1_items
def f_X5_takeRingsOf_L6b (k6 : Int32 → Int32 → Int32 → (Nat → Int32) → (Nat → Int32) → (Nat → Int32) → Int32 → (Nat → Int32) → Option ((Nat → Int32) × (Nat → Int32))) (v2 : Int32) (v3 : Int32) (o_last : Int32) (o_howFar : Nat → Int32) (o_tones : Nat → Int32) (o_fars : Nat → Int32) (p1_size : Int32) (p1_items : Nat → Int32) : Option ((Nat → Int32) × (Nat → Int32)) :=
  if o_last < v3 then
    some (o_howFar, o_tones)
  else
    if 6 < v3 then
      some (o_howFar, o_tones)
    else
      bd1 (f_X2_at (v2 + v3) p1_size p1_items) fun r_2 =>
      bd1 (f_X6_isCell r_2) fun r_3 =>
      if r_3 = 0 then
        f_X5_takeRingsOf_B53 k6 v2 v3 (-1) v3 o_last o_howFar o_tones o_fars p1_size p1_items
      else
        chk (¬ (r_2 < 0 ∨ 100 ≤ r_2.toNatClampNeg)) <|
        f_X5_takeRingsOf_B53 k6 v2 v3 (o_fars r_2.toNatClampNeg) v3 o_last o_howFar o_tones o_fars p1_size p1_items
def f_X5_takeRingsOf_L6 : Nat → Int32 → Int32 → Int32 → (Nat → Int32) → (Nat → Int32) → (Nat → Int32) → Int32 → (Nat → Int32) → Option ((Nat → Int32) × (Nat → Int32))
  | 0 => fun _ _ _ _ _ _ _ _ => none
  | n + 1 => f_X5_takeRingsOf_L6b (f_X5_takeRingsOf_L6 n)
def f_X5_takeRingsOf (x2 : Int32) (o_last : Int32) (o_howFar : Nat → Int32) (o_tones : Nat → Int32) (o_fars : Nat → Int32) (p1_size : Int32) (p1_items : Nat → Int32) : Option ((Nat → Int32) × (Nat → Int32)) :=
  bd2 (f_X5_leaveOutRings o_howFar o_tones) fun w_4 w_5 =>
  f_X5_takeRingsOf_L6 FU x2 1 o_last w_4 w_5 o_fars p1_size p1_items
abbrev rm_X5_takeRingsOf : Room := { frames := 2, cells := 0, slots := 0, locals := 43 }
set_option maxRecDepth 100000 in
set_option maxHeartbeats 4000000 in
theorem c_X5_takeRingsOf (l : Launch) (dC : Nat → ClassId) (dI : Nat → Nat → Nat) (cyI cyJ cyO : ClassId) (sz : Nat) (tD tR tL tM : Nat) (h_o h_p1 a_o_howFar a_o_tones a_o_only a_o_fars a_o_cellAt a_o_ends a_o_seen a_o_begun a_p1_items : Nat) (o_last : Int32) (o_turnsLet : Int32) (o_slowsLet : Int32) (o_fuel : Int32) (o_glide : Int32) (o_count : Int32) (o_weightSum : Int64) (o_toPass : Int32) (o_foundNumber : Int32) (o_foundWeight : Int32) (o_foundTurns : Int32) (o_foundSlowed : Int32) (o_howFar : Nat → Int32) (o_tones : Nat → Int32) (o_fars : Nat → Int32) (p1_lane : Int32) (p1_size : Int32) (p1_items : Nat → Int32) (x2 : Int32) (post : ((Nat → Int32) × (Nat → Int32)) → Prop) (hf : okP (f_X5_takeRingsOf x2 o_last o_howFar o_tones o_fars p1_size p1_items) post) : Cv l (dC, dI) (tyL cyI cyJ cyO) yX5_takeRingsOf wsX5_takeRingsOf rm_X5_takeRingsOf [.ref h_o, .ref h_p1, .int x2] sz (W_X5_takeRingsOf cyI cyJ cyO h_o h_p1 a_o_howFar a_o_tones a_o_only a_o_fars a_o_cellAt a_o_ends a_o_seen a_o_begun a_p1_items o_last o_turnsLet o_slowsLet o_fuel o_glide o_count o_weightSum o_toPass o_foundNumber o_foundWeight o_foundTurns o_foundSlowed o_howFar o_tones o_fars p1_lane p1_size p1_items) (zX tD tR tL tM) (fun u => post u) (fun u => (W_X5_takeRingsOf cyI cyJ cyO h_o h_p1 a_o_howFar a_o_tones a_o_only a_o_fars a_o_cellAt a_o_ends a_o_seen a_o_begun a_p1_items o_last o_turnsLet o_slowsLet o_fuel o_glide o_count o_weightSum o_toPass o_foundNumber o_foundWeight o_foundTurns o_foundSlowed u.1 u.2 o_fars p1_lane p1_size p1_items)) := by
  refine Met.ofW (cc := cX5_takeRingsOf) (maxL := 5) (ret := none) (by decide) rfl ?_
  intro p e s m args below meth c s₁ B hml hv
  obtain ⟨rfl, hsz, hP, hK, hD0, hZ⟩ := hv
  have hx := B.exec
  have hb := B.bytes
  have hr := B.returns
  have hts := atoms_spec (ws := wsX5_takeRingsOf) B.pre
  have hown : s.vm.findClass RX5 = some m.cls := findClass_of_methodNamed B.named
  have hlocks := B.notSynchronized
  subst hsz
  have hD := hD0.self (sz := s.heap.size)
  generalize hAe : va_A (W_X5_takeRingsOf cyI cyJ cyO h_o h_p1 a_o_howFar a_o_tones a_o_only a_o_fars a_o_cellAt a_o_ends a_o_seen a_o_begun a_p1_items o_last o_turnsLet o_slowsLet o_fuel o_glide o_count o_weightSum o_toPass o_foundNumber o_foundWeight o_foundTurns o_foundSlowed o_howFar o_tones o_fars p1_lane p1_size p1_items) s.heap.size = A at hD hZ ⊢
  have hA : ∀ q : Nat, s.heap.size ≤ q → A q := fun q h => by rw [← hAe]; exact Or.inr h
  clear hAe hD0
  have hS : va_S A s.heap s.heap [] := va_S.rf
  have hl := lv_entry ([.ref h_o, .ref h_p1, .int x2]) (n := 5) (Nat.le_of_ble_eq_true rfl)
  rw [lg_entry_eq]
  generalize (lg_sl ([.ref h_o, .ref h_p1, .int x2]) ++ List.replicate (5 - (lg_sl ([.ref h_o, .ref h_p1, .int x2])).length) Slot.unset).toArray = ls at hl ⊢
  have hl : lv_has ls 5 [(0, .ref h_o), (1, .ref h_p1), (2, .int x2)] := hl
  refine kW (fun Q hQ => ?_)
  have hq0 := hts _ (List.mem_cons_of_mem _ q_121)
  have hi5 : ∀ w ∈ u_ws RX5 TX5 20, w ∈ wsX5_takeRingsOf := fun w h => List.mem_cons_of_mem _ (inX5 w h)
  have hq2 := hts _ (List.mem_cons_of_mem _ q_117)
  have hq3 := hts _ (List.mem_cons_of_mem _ q_1)
  have hq4 := hts _ (List.mem_cons_of_mem _ q_333)
  have hq5 := hts _ (List.mem_cons_of_mem _ q_120)
  have hw := hf
  have w6 : ∀ (n : Nat), ∀ (v2 : Int32) (v3 : Int32) (o_howFar : Nat → Int32) (o_tones : Nat → Int32) (H : Heap) (locs : List Loc), va_P (dC, dI) vwCl (W_X5_takeRingsOf cyI cyJ cyO h_o h_p1 a_o_howFar a_o_tones a_o_only a_o_fars a_o_cellAt a_o_ends a_o_seen a_o_begun a_p1_items o_last o_turnsLet o_slowsLet o_fuel o_glide o_count o_weightSum o_toPass o_foundNumber o_foundWeight o_foundTurns o_foundSlowed o_howFar o_tones o_fars p1_lane p1_size p1_items) H → va_D A (W_X5_takeRingsOf cyI cyJ cyO h_o h_p1 a_o_howFar a_o_tones a_o_only a_o_fars a_o_cellAt a_o_ends a_o_seen a_o_begun a_p1_items o_last o_turnsLet o_slowsLet o_fuel o_glide o_count o_weightSum o_toPass o_foundNumber o_foundWeight o_foundTurns o_foundSlowed o_howFar o_tones o_fars p1_lane p1_size p1_items) → va_S A s.heap H locs → ∀ (ls : Array Slot), lv_has ls 5 [(0, .ref h_o), (1, .ref h_p1), (2, .int v2), (3, .int v3)] → okP (f_X5_takeRingsOf_L6 n v2 v3 o_last o_howFar o_tones o_fars p1_size p1_items) post → W p l e (headSpec wsX5_takeRingsOf rm_X5_takeRingsOf).room s m ([.ref h_o, .ref h_p1, .int x2] : List Value).toArray below meth c H locs 0 0 Q (F0 m 6 ls []) := by
    intro n
    induction n with
    | zero =>
      intro v2 v3 o_howFar o_tones H locs hP hD hS ls hl hw
      exact (ok0 hw).elim
    | succ n6 ih6 =>
      have w53 : ∀ (v2 : Int32) (v3 : Int32) (y0 : Int32) (y1 : Int32) (o_howFar : Nat → Int32) (o_tones : Nat → Int32) (H : Heap) (locs : List Loc), va_P (dC, dI) vwCl (W_X5_takeRingsOf cyI cyJ cyO h_o h_p1 a_o_howFar a_o_tones a_o_only a_o_fars a_o_cellAt a_o_ends a_o_seen a_o_begun a_p1_items o_last o_turnsLet o_slowsLet o_fuel o_glide o_count o_weightSum o_toPass o_foundNumber o_foundWeight o_foundTurns o_foundSlowed o_howFar o_tones o_fars p1_lane p1_size p1_items) H → va_D A (W_X5_takeRingsOf cyI cyJ cyO h_o h_p1 a_o_howFar a_o_tones a_o_only a_o_fars a_o_cellAt a_o_ends a_o_seen a_o_begun a_p1_items o_last o_turnsLet o_slowsLet o_fuel o_glide o_count o_weightSum o_toPass o_foundNumber o_foundWeight o_foundTurns o_foundSlowed o_howFar o_tones o_fars p1_lane p1_size p1_items) → va_S A s.heap H locs → ∀ (ls : Array Slot), lv_has ls 5 [(0, .ref h_o), (1, .ref h_p1), (2, .int v2), (3, .int v3)] → okP (f_X5_takeRingsOf_B53 (f_X5_takeRingsOf_L6 n6) v2 v3 y0 y1 o_last o_howFar o_tones o_fars p1_size p1_items) post → W p l e (headSpec wsX5_takeRingsOf rm_X5_takeRingsOf).room s m ([.ref h_o, .ref h_p1, .int x2] : List Value).toArray below meth c H locs 0 0 Q (F0 m 53 ls [.int y0, .int y1, .ref a_o_howFar]) := by
        intro v2 v3 y0 y1 o_howFar o_tones H locs hP hD hS ls hl hw
        unfold f_X5_takeRingsOf_B53 at hw
        obtain ⟨h_1, hw⟩ := okC hw
        refine va_iast (i := y1) (x := y0) hx hb hK hP hD hS 1 0 rfl rfl h_1 dX5_takeRingsOf_53 (fun H locs hP hD hS => ?_)
        have hP : va_P (dC, dI) vwCl (W_X5_takeRingsOf cyI cyJ cyO h_o h_p1 a_o_howFar a_o_tones a_o_only a_o_fars a_o_cellAt a_o_ends a_o_seen a_o_begun a_p1_items o_last o_turnsLet o_slowsLet o_fuel o_glide o_count o_weightSum o_toPass o_foundNumber o_foundWeight o_foundTurns o_foundSlowed (upd o_howFar y1.toNatClampNeg y0) o_tones o_fars p1_lane p1_size p1_items) H := hP
        have hD : va_D A (W_X5_takeRingsOf cyI cyJ cyO h_o h_p1 a_o_howFar a_o_tones a_o_only a_o_fars a_o_cellAt a_o_ends a_o_seen a_o_begun a_p1_items o_last o_turnsLet o_slowsLet o_fuel o_glide o_count o_weightSum o_toPass o_foundNumber o_foundWeight o_foundTurns o_foundSlowed (upd o_howFar y1.toNatClampNeg y0) o_tones o_fars p1_lane p1_size p1_items) := hD
        obtain ⟨x_2, ex_2⟩ : ∃ y : Int32, y = v3 + 1 := ⟨_, rfl⟩
        replace hw := okN ex_2 hw
        refine lv_iinc (v := x_2) (lv' := [(3, .int x_2), (0, .ref h_o), (1, .ref h_p1), (2, .int v2)]) hx hb dX5_takeRingsOf_54 hl (k := 3) rfl (by rw [ex_2]; rfl) (by decide) rfl (fun ls hl => ?_)
        clear ex_2
        refine lv_goto (tgt := 6) hx hb dX5_takeRingsOf_57 (by decide) ?_
        exact ih6 v2 x_2 (upd o_howFar y1.toNatClampNeg y0) o_tones _ _ hP hD hS _ (lv_sub hl [1, 2, 3, 0] rfl) hw
      intro v2 v3 o_howFar o_tones H locs hP hD hS ls hl hw
      replace hw : okP (f_X5_takeRingsOf_L6b (f_X5_takeRingsOf_L6 n6) v2 v3 o_last o_howFar o_tones o_fars p1_size p1_items) post := hw
      unfold f_X5_takeRingsOf_L6b at hw
      refine lv_iload_n hx hb dX5_takeRingsOf_6 rfl (lv_at hl 3 rfl) ?_
      refine lv_aload_n hx hb dX5_takeRingsOf_7 rfl (lv_at hl 0 rfl) ?_
      refine va_get (D := (dC, dI)) (ci := 5) (v := .int o_last) (C := RX5) (T := TX5) (N := 20) hx hb hts hi5 hown hK hP 0 rfl rfl 4 (by decide) hq0 (fun _ h9 => h9) rfl dX5_takeRingsOf_8 ?_
      refine lv_icmp_gt (tgt := 60) hx hb dX5_takeRingsOf_11 (by decide) (fun c_3 => ?_) (fun c_3 => ?_)
      · replace hw := okT hw c_3
        clear c_3
        rw [hQ]
        exact W.vret hx hb hr (fun t ht hW => ⟨⟨(o_howFar, o_tones), rfl, okS hw, by rw [ht]; exact hP, va_K.moved hW.alike hK, hD⟩, hS.F ht⟩) hS.2.2 dX5_takeRingsOf_60
      · replace hw := okF hw c_3
        clear c_3
        refine lv_iload_n hx hb dX5_takeRingsOf_14 rfl (lv_at hl 3 rfl) ?_
        refine lv_bipush (v := 6) hx hb dX5_takeRingsOf_15 (by decide) ?_
        refine lv_icmp_gt (tgt := 60) hx hb dX5_takeRingsOf_17 (by decide) (fun c_4 => ?_) (fun c_4 => ?_)
        · replace hw := okT hw c_4
          clear c_4
          rw [hQ]
          exact W.vret hx hb hr (fun t ht hW => ⟨⟨(o_howFar, o_tones), rfl, okS hw, by rw [ht]; exact hP, va_K.moved hW.alike hK, hD⟩, hS.F ht⟩) hS.2.2 dX5_takeRingsOf_60
        · replace hw := okF hw c_4
          clear c_4
          refine lv_aload_n hx hb dX5_takeRingsOf_20 rfl (lv_at hl 1 rfl) ?_
          refine lv_iload_n hx hb dX5_takeRingsOf_21 rfl (lv_at hl 2 rfl) ?_
          refine lv_iload_n hx hb dX5_takeRingsOf_22 rfl (lv_at hl 3 rfl) ?_
          refine lv_iadd hx hb dX5_takeRingsOf_23 ?_
          have hPc := hP.sub (ws' := (W_X2_at cyI cyJ cyO h_p1 a_p1_items p1_lane p1_size p1_items)) [4, 5] rfl
          have hDc := hD.sub (ws' := (W_X2_at cyI cyJ cyO h_p1 a_p1_items p1_lane p1_size p1_items)) [4, 5] (by decide +kernel) rfl
          have hFc := va_free (wc := (W_X2_at cyI cyJ cyO h_p1 a_p1_items p1_lane p1_size p1_items)) hD hS hA [4, 5] rfl
          refine kc_i (wr := [(h_o, .inr (5, [.ref a_o_howFar, .ref a_o_tones, .ref a_o_only, .ref a_o_fars, .int o_last, .int o_turnsLet, .int o_slowsLet, .int o_fuel, .int o_glide, .ref a_o_cellAt, .ref a_o_ends, .ref a_o_seen, .ref a_o_begun, .int o_count, .long o_weightSum, .int o_toPass, .int o_foundNumber, .int o_foundWeight, .int o_foundTurns, .int o_foundSlowed])), (a_o_howFar, .inl (cyI, 7, .inl o_howFar)), (a_o_tones, .inl (cyI, 7, .inl o_tones)), (a_o_fars, .inl (cyI, 100, .inl o_fars))]) (va_runV (As := [.int (v2 + v3)]) (rest := []) ⟨hx, hb, hml, hown, hts⟩ (c_X2_at l dC dI cyI cyJ cyO H.size h_p1 a_p1_items p1_lane p1_size p1_items (v2 + v3) _ (okb1 hw)) (cwV 1 hts (gdV (fun w h => List.mem_cons_of_mem _ h) q_648 q_636 q_637 q_7 q_638) rfl rfl rfl (by decide +kernel) ⟨Nat.le_of_ble_eq_true rfl, Nat.le_of_ble_eq_true rfl⟩) ⟨(kpre zN_ok hK hPc hDc trivial hS hFc).1, va_recv hK hP (ci := 2) (q0 := 4) rfl rfl, (kpre zN_ok hK hPc hDc trivial hS hFc).2⟩ rfl rfl hl.1 rfl (lv_room (Nat.le_of_ble_eq_true rfl)) dX5_takeRingsOf_24 ⟨Nat.le_of_ble_eq_true rfl, Nat.le_of_ble_eq_true rfl⟩) hP hD hS hFc [4, 5] [0, 1, 2, 3] rfl rfl (by decide +kernel) (by decide +kernel) (fun r_5 u H locs hw hP hD hS => ?_)
          try dsimp only at hw
          have hP : va_P (dC, dI) vwCl (W_X5_takeRingsOf cyI cyJ cyO h_o h_p1 a_o_howFar a_o_tones a_o_only a_o_fars a_o_cellAt a_o_ends a_o_seen a_o_begun a_p1_items o_last o_turnsLet o_slowsLet o_fuel o_glide o_count o_weightSum o_toPass o_foundNumber o_foundWeight o_foundTurns o_foundSlowed o_howFar o_tones o_fars p1_lane p1_size p1_items) H := hP.sub [0, 1, 2, 3, 4, 5] rfl
          have hD : va_D A (W_X5_takeRingsOf cyI cyJ cyO h_o h_p1 a_o_howFar a_o_tones a_o_only a_o_fars a_o_cellAt a_o_ends a_o_seen a_o_begun a_p1_items o_last o_turnsLet o_slowsLet o_fuel o_glide o_count o_weightSum o_toPass o_foundNumber o_foundWeight o_foundTurns o_foundSlowed o_howFar o_tones o_fars p1_lane p1_size p1_items) := hD.sub [0, 1, 2, 3, 4, 5] (by decide +kernel) rfl
          clear hPc hDc hFc
          refine lv_istore (lv' := [(4, .int r_5), (0, .ref h_o), (1, .ref h_p1), (2, .int v2), (3, .int v3)]) hx hb dX5_takeRingsOf_27 hl (by decide) rfl (fun ls hl => ?_)
          refine lv_aload_n hx hb dX5_takeRingsOf_29 rfl (lv_at hl 1 rfl) ?_
          refine va_get (D := (dC, dI)) (ci := 5) (v := .ref a_o_howFar) (C := RX5) (T := TX5) (N := 20) hx hb hts hi5 hown hK hP 0 rfl rfl 0 (by decide) hq2 (fun _ h9 => h9) rfl dX5_takeRingsOf_30 ?_
          refine lv_iload_n hx hb dX5_takeRingsOf_33 rfl (lv_at hl 4 rfl) ?_
          refine lv_iload hx hb dX5_takeRingsOf_34 (lv_at hl 0 rfl) ?_
          have hFc := va_free (wc := []) hD hS hA [] rfl
          refine kp_i (va_runSN (As := [.int r_5]) (rest := [.int v3, .ref a_o_howFar]) ⟨hx, hb, hml, hown, hts⟩ (c_X6_isCell l dC dI cyI cyJ cyO H.size r_5 _ (okb1 hw)) ⟨va_cnB 1 hts (gdN (fun w h => List.mem_cons_of_mem _ h) q_334) rfl rfl rfl hZ.2.2.2.2.2.2.2.2.2.2.1 hq3 (by decide +kernel) ⟨Nat.le_of_ble_eq_true rfl, Nat.le_of_ble_eq_true rfl⟩, hq4, trivial⟩ (kpre zN_ok hK va_P0 va_D0 trivial hS hFc) rfl rfl hl.1 rfl (lv_room (Nat.le_of_ble_eq_true rfl)) dX5_takeRingsOf_36 ⟨Nat.le_of_ble_eq_true rfl, Nat.le_of_ble_eq_true rfl⟩) hP hD hS hFc (fun r_6 H locs hw hP hS => ?_)
          try dsimp only at hw
          clear hFc
          refine lv_if_eq (tgt := 52) hx hb dX5_takeRingsOf_39 (by decide) (fun c_7 => ?_) (fun c_7 => ?_)
          · replace hw := okT hw c_7
            clear c_7
            refine lv_iconst (v := (-1)) hx hb dX5_takeRingsOf_52 (by decide) ?_
            exact w53 v2 v3 (-1) v3 o_howFar o_tones _ _ hP hD hS _ (lv_sub hl [1, 2, 3, 4] rfl) hw
          · replace hw := okF hw c_7
            clear c_7
            refine lv_aload_n hx hb dX5_takeRingsOf_42 rfl (lv_at hl 1 rfl) ?_
            refine va_get (D := (dC, dI)) (ci := 5) (v := .ref a_o_fars) (C := RX5) (T := TX5) (N := 20) hx hb hts hi5 hown hK hP 0 rfl rfl 3 (by decide) hq5 (fun _ h9 => h9) rfl dX5_takeRingsOf_43 ?_
            refine lv_iload hx hb dX5_takeRingsOf_46 (lv_at hl 0 rfl) ?_
            obtain ⟨h_8, hw⟩ := okC hw
            refine va_iald (i := r_5) hx hb hK hP 3 0 rfl rfl h_8 dX5_takeRingsOf_48 ?_
            refine lv_goto (tgt := 53) hx hb dX5_takeRingsOf_49 (by decide) ?_
            exact w53 v2 v3 (o_fars r_5.toNatClampNeg) v3 o_howFar o_tones _ _ hP hD hS _ (lv_sub hl [1, 2, 3, 4] rfl) hw
  unfold f_X5_takeRingsOf at hw
  have hP : va_P (dC, dI) vwCl (W_X5_takeRingsOf cyI cyJ cyO h_o h_p1 a_o_howFar a_o_tones a_o_only a_o_fars a_o_cellAt a_o_ends a_o_seen a_o_begun a_p1_items o_last o_turnsLet o_slowsLet o_fuel o_glide o_count o_weightSum o_toPass o_foundNumber o_foundWeight o_foundTurns o_foundSlowed o_howFar o_tones o_fars p1_lane p1_size p1_items) s.heap := hP
  obtain ⟨H, hH⟩ : ∃ H, H = s.heap := ⟨_, rfl⟩
  obtain ⟨locs, hlo⟩ : ∃ x : List Loc, x = [] := ⟨_, rfl⟩
  have hP : va_P (dC, dI) vwCl (W_X5_takeRingsOf cyI cyJ cyO h_o h_p1 a_o_howFar a_o_tones a_o_only a_o_fars a_o_cellAt a_o_ends a_o_seen a_o_begun a_p1_items o_last o_turnsLet o_slowsLet o_fuel o_glide o_count o_weightSum o_toPass o_foundNumber o_foundWeight o_foundTurns o_foundSlowed o_howFar o_tones o_fars p1_lane p1_size p1_items) H := by rw [hH]; exact hP
  have hS : va_S A s.heap H locs := by rw [hH, hlo]; exact hS
  refine kH hH hlo ?_
  clear hH hlo
  refine lv_aload_n hx hb dX5_takeRingsOf_0 rfl (lv_at hl 0 rfl) ?_
  have hPc := hP.sub (ws' := (W_X5_leaveOutRings cyI cyJ cyO h_o a_o_howFar a_o_tones a_o_only a_o_fars a_o_cellAt a_o_ends a_o_seen a_o_begun o_last o_turnsLet o_slowsLet o_fuel o_glide o_count o_weightSum o_toPass o_foundNumber o_foundWeight o_foundTurns o_foundSlowed o_howFar o_tones)) [0, 1, 2] rfl
  have hDc := hD.sub (ws' := (W_X5_leaveOutRings cyI cyJ cyO h_o a_o_howFar a_o_tones a_o_only a_o_fars a_o_cellAt a_o_ends a_o_seen a_o_begun o_last o_turnsLet o_slowsLet o_fuel o_glide o_count o_weightSum o_toPass o_foundNumber o_foundWeight o_foundTurns o_foundSlowed o_howFar o_tones)) [0, 1, 2] (by decide +kernel) rfl
  have hFc := va_free (wc := (W_X5_leaveOutRings cyI cyJ cyO h_o a_o_howFar a_o_tones a_o_only a_o_fars a_o_cellAt a_o_ends a_o_seen a_o_begun o_last o_turnsLet o_slowsLet o_fuel o_glide o_count o_weightSum o_toPass o_foundNumber o_foundWeight o_foundTurns o_foundSlowed o_howFar o_tones)) hD hS hA [0, 1, 2] rfl
  refine kc_v (wr := [(a_o_fars, .inl (cyI, 100, .inl o_fars)), (h_p1, .inr (2, [.ref a_p1_items, .int p1_lane, .int p1_size])), (a_p1_items, .inl (cyI, 16, .inl p1_items))]) (va_runV (As := []) (rest := []) ⟨hx, hb, hml, hown, hts⟩ (c_X5_leaveOutRings l dC dI cyI cyJ cyO H.size h_o a_o_howFar a_o_tones a_o_only a_o_fars a_o_cellAt a_o_ends a_o_seen a_o_begun o_last o_turnsLet o_slowsLet o_fuel o_glide o_count o_weightSum o_toPass o_foundNumber o_foundWeight o_foundTurns o_foundSlowed o_howFar o_tones _ (okb2 hw)) (cwV 0 hts (gdV (fun w h => List.mem_cons_of_mem _ h) q_653 q_641 q_642 q_3 q_643) rfl rfl rfl (by decide +kernel) ⟨Nat.le_of_ble_eq_true rfl, Nat.le_of_ble_eq_true rfl⟩) ⟨(kpre zN_ok hK hPc hDc trivial hS hFc).1, va_recv hK hP (ci := 5) (q0 := 0) rfl rfl, (kpre zN_ok hK hPc hDc trivial hS hFc).2⟩ rfl rfl hl.1 rfl (lv_room (Nat.le_of_ble_eq_true rfl)) dX5_takeRingsOf_1 ⟨Nat.le_of_ble_eq_true rfl, Nat.le_of_ble_eq_true rfl⟩) hP hD hS hFc [0, 1, 2] [3, 4, 5] rfl rfl (by decide +kernel) (by decide +kernel) (fun u H locs hw hP hD hS => ?_)
  obtain ⟨w_9, w_10⟩ := u
  try dsimp only at hw
  have hP : va_P (dC, dI) vwCl (W_X5_takeRingsOf cyI cyJ cyO h_o h_p1 a_o_howFar a_o_tones a_o_only a_o_fars a_o_cellAt a_o_ends a_o_seen a_o_begun a_p1_items o_last o_turnsLet o_slowsLet o_fuel o_glide o_count o_weightSum o_toPass o_foundNumber o_foundWeight o_foundTurns o_foundSlowed w_9 w_10 o_fars p1_lane p1_size p1_items) H := hP.sub [3, 4, 5, 0, 1, 2] rfl
  have hD : va_D A (W_X5_takeRingsOf cyI cyJ cyO h_o h_p1 a_o_howFar a_o_tones a_o_only a_o_fars a_o_cellAt a_o_ends a_o_seen a_o_begun a_p1_items o_last o_turnsLet o_slowsLet o_fuel o_glide o_count o_weightSum o_toPass o_foundNumber o_foundWeight o_foundTurns o_foundSlowed w_9 w_10 o_fars p1_lane p1_size p1_items) := hD.sub [3, 4, 5, 0, 1, 2] (by decide +kernel) rfl
  clear hPc hDc hFc
  refine lv_iconst (v := 1) hx hb dX5_takeRingsOf_4 (by decide) ?_
  refine lv_istore_n (lv' := [(3, .int 1), (0, .ref h_o), (1, .ref h_p1), (2, .int x2)]) hx hb dX5_takeRingsOf_5 rfl hl (by decide) rfl (fun ls hl => ?_)
  exact w6 FU x2 1 w_9 w_10 _ _ hP hD hS _ (lv_sub hl [1, 2, 3, 0] rfl) hw
/-! ===== X5_leaveOut ===== -/
theorem dX5_leaveOut_0 : decode cX5_leaveOut 0 = .ok (.iload_n 1, 1) := by decide +kernel
theorem dX5_leaveOut_1 : decode cX5_leaveOut 1 = .ok (.bipush 7, 2) := by decide +kernel
theorem dX5_leaveOut_3 : decode cX5_leaveOut 3 = .ok (.if_icmp .ne 31, 3) := by decide +kernel
theorem dX5_leaveOut_6 : decode cX5_leaveOut 6 = .ok (.aload_n 0, 1) := by decide +kernel
theorem dX5_leaveOut_7 : decode cX5_leaveOut 7 = .ok (.getfield 35, 3) := by decide +kernel
theorem dX5_leaveOut_10 : decode cX5_leaveOut 10 = .ok (.bipush 9, 2) := by decide +kernel
theorem dX5_leaveOut_12 : decode cX5_leaveOut 12 = .ok (.aload_n 0, 1) := by decide +kernel
theorem dX5_leaveOut_13 : decode cX5_leaveOut 13 = .ok (.getfield 24, 3) := by decide +kernel
theorem dX5_leaveOut_16 : decode cX5_leaveOut 16 = .ok (.imul, 1) := by decide +kernel
theorem dX5_leaveOut_17 : decode cX5_leaveOut 17 = .ok (.if_icmp .ge 7, 3) := by decide +kernel
theorem dX5_leaveOut_20 : decode cX5_leaveOut 20 = .ok (.iconst 1, 1) := by decide +kernel
theorem dX5_leaveOut_21 : decode cX5_leaveOut 21 = .ok (.goto 4, 3) := by decide +kernel
theorem dX5_leaveOut_24 : decode cX5_leaveOut 24 = .ok (.iconst 0, 1) := by decide +kernel
theorem dX5_leaveOut_25 : decode cX5_leaveOut 25 = .ok (.istore_n 2, 1) := by decide +kernel
theorem dX5_leaveOut_26 : decode cX5_leaveOut 26 = .ok (.aload_n 0, 1) := by decide +kernel
theorem dX5_leaveOut_27 : decode cX5_leaveOut 27 = .ok (.bipush 54, 2) := by decide +kernel
theorem dX5_leaveOut_29 : decode cX5_leaveOut 29 = .ok (.putfield 35, 3) := by decide +kernel
theorem dX5_leaveOut_32 : decode cX5_leaveOut 32 = .ok (.iload_n 2, 1) := by decide +kernel
theorem dX5_leaveOut_33 : decode cX5_leaveOut 33 = .ok (.ireturn, 1) := by decide +kernel
theorem dX5_leaveOut_34 : decode cX5_leaveOut 34 = .ok (.iconst 0, 1) := by decide +kernel
theorem dX5_leaveOut_35 : decode cX5_leaveOut 35 = .ok (.istore_n 2, 1) := by decide +kernel
theorem dX5_leaveOut_36 : decode cX5_leaveOut 36 = .ok (.iconst 1, 1) := by decide +kernel
theorem dX5_leaveOut_37 : decode cX5_leaveOut 37 = .ok (.istore_n 3, 1) := by decide +kernel
theorem dX5_leaveOut_38 : decode cX5_leaveOut 38 = .ok (.iload_n 3, 1) := by decide +kernel
theorem dX5_leaveOut_39 : decode cX5_leaveOut 39 = .ok (.bipush 6, 2) := by decide +kernel
theorem dX5_leaveOut_41 : decode cX5_leaveOut 41 = .ok (.if_icmp .gt 93, 3) := by decide +kernel
theorem dX5_leaveOut_44 : decode cX5_leaveOut 44 = .ok (.iload_n 1, 1) := by decide +kernel
theorem dX5_leaveOut_45 : decode cX5_leaveOut 45 = .ok (.iload_n 3, 1) := by decide +kernel
theorem dX5_leaveOut_46 : decode cX5_leaveOut 46 = .ok (.iconst 1, 1) := by decide +kernel
theorem dX5_leaveOut_47 : decode cX5_leaveOut 47 = .ok (.isub, 1) := by decide +kernel
theorem dX5_leaveOut_48 : decode cX5_leaveOut 48 = .ok (.if_icmp .ne 7, 3) := by decide +kernel
theorem dX5_leaveOut_51 : decode cX5_leaveOut 51 = .ok (.iconst 1, 1) := by decide +kernel
theorem dX5_leaveOut_52 : decode cX5_leaveOut 52 = .ok (.goto 4, 3) := by decide +kernel
theorem dX5_leaveOut_55 : decode cX5_leaveOut 55 = .ok (.iconst 0, 1) := by decide +kernel
theorem dX5_leaveOut_56 : decode cX5_leaveOut 56 = .ok (.istore 4, 2) := by decide +kernel
theorem dX5_leaveOut_58 : decode cX5_leaveOut 58 = .ok (.iload 4, 2) := by decide +kernel
theorem dX5_leaveOut_60 : decode cX5_leaveOut 60 = .ok (.ifCond .ne 9, 3) := by decide +kernel
theorem dX5_leaveOut_63 : decode cX5_leaveOut 63 = .ok (.iload_n 1, 1) := by decide +kernel
theorem dX5_leaveOut_64 : decode cX5_leaveOut 64 = .ok (.bipush 6, 2) := by decide +kernel
theorem dX5_leaveOut_66 : decode cX5_leaveOut 66 = .ok (.if_icmp .ne 50, 3) := by decide +kernel
theorem dX5_leaveOut_69 : decode cX5_leaveOut 69 = .ok (.iload_n 2, 1) := by decide +kernel
theorem dX5_leaveOut_70 : decode cX5_leaveOut 70 = .ok (.iload_n 3, 1) := by decide +kernel
theorem dX5_leaveOut_71 : decode cX5_leaveOut 71 = .ok (.aload_n 0, 1) := by decide +kernel
theorem dX5_leaveOut_72 : decode cX5_leaveOut 72 = .ok (.getfield 24, 3) := by decide +kernel
theorem dX5_leaveOut_75 : decode cX5_leaveOut 75 = .ok (.if_icmp .gt 31, 3) := by decide +kernel
theorem dX5_leaveOut_78 : decode cX5_leaveOut 78 = .ok (.aload_n 0, 1) := by decide +kernel
theorem dX5_leaveOut_79 : decode cX5_leaveOut 79 = .ok (.getfield 15, 3) := by decide +kernel
theorem dX5_leaveOut_82 : decode cX5_leaveOut 82 = .ok (.iload_n 3, 1) := by decide +kernel
theorem dX5_leaveOut_83 : decode cX5_leaveOut 83 = .ok (.iaload, 1) := by decide +kernel
theorem dX5_leaveOut_84 : decode cX5_leaveOut 84 = .ok (.ifCond .ne 18, 3) := by decide +kernel
theorem dX5_leaveOut_87 : decode cX5_leaveOut 87 = .ok (.iload 4, 2) := by decide +kernel
theorem dX5_leaveOut_89 : decode cX5_leaveOut 89 = .ok (.ifCond .eq 17, 3) := by decide +kernel
theorem dX5_leaveOut_92 : decode cX5_leaveOut 92 = .ok (.aload_n 0, 1) := by decide +kernel
theorem dX5_leaveOut_93 : decode cX5_leaveOut 93 = .ok (.getfield 9, 3) := by decide +kernel
theorem dX5_leaveOut_96 : decode cX5_leaveOut 96 = .ok (.iload_n 3, 1) := by decide +kernel
theorem dX5_leaveOut_97 : decode cX5_leaveOut 97 = .ok (.iaload, 1) := by decide +kernel
theorem dX5_leaveOut_98 : decode cX5_leaveOut 98 = .ok (.iconst (-1), 1) := by decide +kernel
theorem dX5_leaveOut_99 : decode cX5_leaveOut 99 = .ok (.if_icmp .eq 7, 3) := by decide +kernel
theorem dX5_leaveOut_102 : decode cX5_leaveOut 102 = .ok (.iconst 1, 1) := by decide +kernel
theorem dX5_leaveOut_103 : decode cX5_leaveOut 103 = .ok (.goto 4, 3) := by decide +kernel
theorem dX5_leaveOut_106 : decode cX5_leaveOut 106 = .ok (.iconst 0, 1) := by decide +kernel
theorem dX5_leaveOut_107 : decode cX5_leaveOut 107 = .ok (.ior, 1) := by decide +kernel
theorem dX5_leaveOut_108 : decode cX5_leaveOut 108 = .ok (.istore_n 2, 1) := by decide +kernel
theorem dX5_leaveOut_109 : decode cX5_leaveOut 109 = .ok (.aload_n 0, 1) := by decide +kernel
theorem dX5_leaveOut_110 : decode cX5_leaveOut 110 = .ok (.getfield 15, 3) := by decide +kernel
theorem dX5_leaveOut_113 : decode cX5_leaveOut 113 = .ok (.iload_n 3, 1) := by decide +kernel
theorem dX5_leaveOut_114 : decode cX5_leaveOut 114 = .ok (.iconst 0, 1) := by decide +kernel
theorem dX5_leaveOut_115 : decode cX5_leaveOut 115 = .ok (.iastore, 1) := by decide +kernel
theorem dX5_leaveOut_116 : decode cX5_leaveOut 116 = .ok (.iload 4, 2) := by decide +kernel
theorem dX5_leaveOut_118 : decode cX5_leaveOut 118 = .ok (.ifCond .eq 10, 3) := by decide +kernel
theorem dX5_leaveOut_121 : decode cX5_leaveOut 121 = .ok (.aload_n 0, 1) := by decide +kernel
theorem dX5_leaveOut_122 : decode cX5_leaveOut 122 = .ok (.getfield 9, 3) := by decide +kernel
theorem dX5_leaveOut_125 : decode cX5_leaveOut 125 = .ok (.iload_n 3, 1) := by decide +kernel
theorem dX5_leaveOut_126 : decode cX5_leaveOut 126 = .ok (.iconst (-1), 1) := by decide +kernel
theorem dX5_leaveOut_127 : decode cX5_leaveOut 127 = .ok (.iastore, 1) := by decide +kernel
theorem dX5_leaveOut_128 : decode cX5_leaveOut 128 = .ok (.iinc 3 1, 3) := by decide +kernel
theorem dX5_leaveOut_131 : decode cX5_leaveOut 131 = .ok (.goto (-93), 3) := by decide +kernel
theorem dX5_leaveOut_134 : decode cX5_leaveOut 134 = .ok (.iload_n 2, 1) := by decide +kernel
theorem dX5_leaveOut_135 : decode cX5_leaveOut 135 = .ok (.ireturn, 1) := by decide +kernel
abbrev W_X5_leaveOut (cyI cyJ cyO : ClassId) (h_o a_o_howFar a_o_tones a_o_only a_o_fars a_o_cellAt a_o_ends a_o_seen a_o_begun : Nat) (o_last : Int32) (o_turnsLet : Int32) (o_slowsLet : Int32) (o_fuel : Int32) (o_glide : Int32) (o_count : Int32) (o_weightSum : Int64) (o_toPass : Int32) (o_foundNumber : Int32) (o_foundWeight : Int32) (o_foundTurns : Int32) (o_foundSlowed : Int32) (o_howFar : Nat → Int32) (o_tones : Nat → Int32) : va_W := [(h_o, .inr (5, [.ref a_o_howFar, .ref a_o_tones, .ref a_o_only, .ref a_o_fars, .int o_last, .int o_turnsLet, .int o_slowsLet, .int o_fuel, .int o_glide, .ref a_o_cellAt, .ref a_o_ends, .ref a_o_seen, .ref a_o_begun, .int o_count, .long o_weightSum, .int o_toPass, .int o_foundNumber, .int o_foundWeight, .int o_foundTurns, .int o_foundSlowed])), (a_o_howFar, .inl (cyI, 7, .inl o_howFar)), (a_o_tones, .inl (cyI, 7, .inl o_tones))]
def f_X5_leaveOut_B128 (k38 : Int32 → Int32 → Int32 → Int32 → Int32 → (Nat → Int32) → (Nat → Int32) → Option (Int32 × Int32 × (Nat → Int32) × (Nat → Int32))) (v1 : Int32) (v2 : Int32) (v3 : Int32) (o_last : Int32) (o_fuel : Int32) (o_howFar : Nat → Int32) (o_tones : Nat → Int32) : Option (Int32 × Int32 × (Nat → Int32) × (Nat → Int32)) :=
  nm (v3 + 1) fun x_1 =>
  k38 v1 v2 x_1 o_last o_fuel o_howFar o_tones
def f_X5_leaveOut_B116 (k38 : Int32 → Int32 → Int32 → Int32 → Int32 → (Nat → Int32) → (Nat → Int32) → Option (Int32 × Int32 × (Nat → Int32) × (Nat → Int32))) (v1 : Int32) (v2 : Int32) (v3 : Int32) (v4 : Int32) (o_last : Int32) (o_fuel : Int32) (o_howFar : Nat → Int32) (o_tones : Nat → Int32) : Option (Int32 × Int32 × (Nat → Int32) × (Nat → Int32)) :=
  if v4 = 0 then
    f_X5_leaveOut_B128 k38 v1 v2 v3 o_last o_fuel o_howFar o_tones
  else
    chk (¬ (v3 < 0 ∨ 7 ≤ v3.toNatClampNeg)) <|
    f_X5_leaveOut_B128 k38 v1 v2 v3 o_last o_fuel (upd o_howFar v3.toNatClampNeg (-1)) o_tones
def f_X5_leaveOut_B107 (k38 : Int32 → Int32 → Int32 → Int32 → Int32 → (Nat → Int32) → (Nat → Int32) → Option (Int32 × Int32 × (Nat → Int32) × (Nat → Int32))) (v1 : Int32) (v3 : Int32) (v4 : Int32) (y0 : Int32) (y1 : Int32) (o_last : Int32) (o_fuel : Int32) (o_howFar : Nat → Int32) (o_tones : Nat → Int32) : Option (Int32 × Int32 × (Nat → Int32) × (Nat → Int32)) :=
  nm (y1 ||| y0) fun x_2 =>
  chk (¬ (v3 < 0 ∨ 7 ≤ v3.toNatClampNeg)) <|
  f_X5_leaveOut_B116 k38 v1 x_2 v3 v4 o_last o_fuel o_howFar (upd o_tones v3.toNatClampNeg 0)
def f_X5_leaveOut_B106 (k38 : Int32 → Int32 → Int32 → Int32 → Int32 → (Nat → Int32) → (Nat → Int32) → Option (Int32 × Int32 × (Nat → Int32) × (Nat → Int32))) (v1 : Int32) (v3 : Int32) (v4 : Int32) (y0 : Int32) (o_last : Int32) (o_fuel : Int32) (o_howFar : Nat → Int32) (o_tones : Nat → Int32) : Option (Int32 × Int32 × (Nat → Int32) × (Nat → Int32)) :=
  f_X5_leaveOut_B107 k38 v1 v3 v4 0 y0 o_last o_fuel o_howFar o_tones
def f_X5_leaveOut_B102 (k38 : Int32 → Int32 → Int32 → Int32 → Int32 → (Nat → Int32) → (Nat → Int32) → Option (Int32 × Int32 × (Nat → Int32) × (Nat → Int32))) (v1 : Int32) (v3 : Int32) (v4 : Int32) (y0 : Int32) (o_last : Int32) (o_fuel : Int32) (o_howFar : Nat → Int32) (o_tones : Nat → Int32) : Option (Int32 × Int32 × (Nat → Int32) × (Nat → Int32)) :=
  f_X5_leaveOut_B107 k38 v1 v3 v4 1 y0 o_last o_fuel o_howFar o_tones
def f_X5_leaveOut_B69 (k38 : Int32 → Int32 → Int32 → Int32 → Int32 → (Nat → Int32) → (Nat → Int32) → Option (Int32 × Int32 × (Nat → Int32) × (Nat → Int32))) (v1 : Int32) (v2 : Int32) (v3 : Int32) (v4 : Int32) (o_last : Int32) (o_fuel : Int32) (o_howFar : Nat → Int32) (o_tones : Nat → Int32) : Option (Int32 × Int32 × (Nat → Int32) × (Nat → Int32)) :=
  if o_last < v3 then
    f_X5_leaveOut_B106 k38 v1 v3 v4 v2 o_last o_fuel o_howFar o_tones
  else
    chk (¬ (v3 < 0 ∨ 7 ≤ v3.toNatClampNeg)) <|
    if (o_tones v3.toNatClampNeg) = 0 then
      if v4 = 0 then
        f_X5_leaveOut_B106 k38 v1 v3 v4 v2 o_last o_fuel o_howFar o_tones
      else
        chk (¬ (v3 < 0 ∨ 7 ≤ v3.toNatClampNeg)) <|
        if (o_howFar v3.toNatClampNeg) = (-1) then
          f_X5_leaveOut_B106 k38 v1 v3 v4 v2 o_last o_fuel o_howFar o_tones
        else
          f_X5_leaveOut_B102 k38 v1 v3 v4 v2 o_last o_fuel o_howFar o_tones
    else
      f_X5_leaveOut_B102 k38 v1 v3 v4 v2 o_last o_fuel o_howFar o_tones
def f_X5_leaveOut_B56 (k38 : Int32 → Int32 → Int32 → Int32 → Int32 → (Nat → Int32) → (Nat → Int32) → Option (Int32 × Int32 × (Nat → Int32) × (Nat → Int32))) (v1 : Int32) (v2 : Int32) (v3 : Int32) (y0 : Int32) (o_last : Int32) (o_fuel : Int32) (o_howFar : Nat → Int32) (o_tones : Nat → Int32) : Option (Int32 × Int32 × (Nat → Int32) × (Nat → Int32)) :=
  if y0 = 0 then
    if v1 = 6 then
      f_X5_leaveOut_B69 k38 v1 v2 v3 y0 o_last o_fuel o_howFar o_tones
    else
      f_X5_leaveOut_B116 k38 v1 v2 v3 y0 o_last o_fuel o_howFar o_tones
  else
    f_X5_leaveOut_B69 k38 v1 v2 v3 y0 o_last o_fuel o_howFar o_tones
def f_X5_leaveOut_L38b (k38 : Int32 → Int32 → Int32 → Int32 → Int32 → (Nat → Int32) → (Nat → Int32) → Option (Int32 × Int32 × (Nat → Int32) × (Nat → Int32))) (v1 : Int32) (v2 : Int32) (v3 : Int32) (o_last : Int32) (o_fuel : Int32) (o_howFar : Nat → Int32) (o_tones : Nat → Int32) : Option (Int32 × Int32 × (Nat → Int32) × (Nat → Int32)) :=
  if 6 < v3 then
    chk (v2 = 0 ∨ v2 = 1) <|
    some (v2, o_fuel, o_howFar, o_tones)
  else
    if v1 = (v3 - 1) then
      f_X5_leaveOut_B56 k38 v1 v2 v3 1 o_last o_fuel o_howFar o_tones
    else
      f_X5_leaveOut_B56 k38 v1 v2 v3 0 o_last o_fuel o_howFar o_tones
def f_X5_leaveOut_L38 : Nat → Int32 → Int32 → Int32 → Int32 → Int32 → (Nat → Int32) → (Nat → Int32) → Option (Int32 × Int32 × (Nat → Int32) × (Nat → Int32))
  | 0 => fun _ _ _ _ _ _ _ => none
  | n + 1 => f_X5_leaveOut_L38b (f_X5_leaveOut_L38 n)
def f_X5_leaveOut_B25 (y0 : Int32) (o_last : Int32) (o_fuel : Int32) (o_howFar : Nat → Int32) (o_tones : Nat → Int32) : Option (Int32 × Int32 × (Nat → Int32) × (Nat → Int32)) :=
  chk (y0 = 0 ∨ y0 = 1) <|
  some (y0, 54, o_howFar, o_tones)
def f_X5_leaveOut (x1 : Int32) (o_last : Int32) (o_fuel : Int32) (o_howFar : Nat → Int32) (o_tones : Nat → Int32) : Option (Int32 × Int32 × (Nat → Int32) × (Nat → Int32)) :=
  if x1 = 7 then
    if (9 * o_last) ≤ o_fuel then
      f_X5_leaveOut_B25 0 o_last o_fuel o_howFar o_tones
    else
      f_X5_leaveOut_B25 1 o_last o_fuel o_howFar o_tones
  else
    f_X5_leaveOut_L38 FU x1 0 1 o_last o_fuel o_howFar o_tones
abbrev rm_X5_leaveOut : Room := { frames := 0, cells := 0, slots := 0, locals := 0 }
set_option maxRecDepth 100000 in
set_option maxHeartbeats 4000000 in
theorem c_X5_leaveOut (l : Launch) (dC : Nat → ClassId) (dI : Nat → Nat → Nat) (cyI cyJ cyO : ClassId) (sz : Nat) (h_o a_o_howFar a_o_tones a_o_only a_o_fars a_o_cellAt a_o_ends a_o_seen a_o_begun : Nat) (o_last : Int32) (o_turnsLet : Int32) (o_slowsLet : Int32) (o_fuel : Int32) (o_glide : Int32) (o_count : Int32) (o_weightSum : Int64) (o_toPass : Int32) (o_foundNumber : Int32) (o_foundWeight : Int32) (o_foundTurns : Int32) (o_foundSlowed : Int32) (o_howFar : Nat → Int32) (o_tones : Nat → Int32) (x1 : Int32) (post : (Int32 × Int32 × (Nat → Int32) × (Nat → Int32)) → Prop) (hf : okP (f_X5_leaveOut x1 o_last o_fuel o_howFar o_tones) post) : Ci l (dC, dI) (tyL cyI cyJ cyO) yX5_leaveOut wsX5_leaveOut rm_X5_leaveOut [.ref h_o, .int x1] sz (W_X5_leaveOut cyI cyJ cyO h_o a_o_howFar a_o_tones a_o_only a_o_fars a_o_cellAt a_o_ends a_o_seen a_o_begun o_last o_turnsLet o_slowsLet o_fuel o_glide o_count o_weightSum o_toPass o_foundNumber o_foundWeight o_foundTurns o_foundSlowed o_howFar o_tones) zN (fun r u => post (r, u)) (fun u => (W_X5_leaveOut cyI cyJ cyO h_o a_o_howFar a_o_tones a_o_only a_o_fars a_o_cellAt a_o_ends a_o_seen a_o_begun o_last o_turnsLet o_slowsLet u.1 o_glide o_count o_weightSum o_toPass o_foundNumber o_foundWeight o_foundTurns o_foundSlowed u.2.1 u.2.2)) := by
  refine Met.ofW (cc := cX5_leaveOut) (maxL := 5) (ret := (some .boolean)) (by decide) rfl ?_
  intro p e s m args below meth c s₁ B hml hv
  obtain ⟨rfl, hsz, hP, hK, hD0, hZ⟩ := hv
  have hx := B.exec
  have hb := B.bytes
  have hr := B.returns
  have hts := atoms_spec (ws := wsX5_leaveOut) B.pre
  have hown : s.vm.findClass RX5 = some m.cls := findClass_of_methodNamed B.named
  have hlocks := B.notSynchronized
  subst hsz
  have hD := hD0.self (sz := s.heap.size)
  generalize hAe : va_A (W_X5_leaveOut cyI cyJ cyO h_o a_o_howFar a_o_tones a_o_only a_o_fars a_o_cellAt a_o_ends a_o_seen a_o_begun o_last o_turnsLet o_slowsLet o_fuel o_glide o_count o_weightSum o_toPass o_foundNumber o_foundWeight o_foundTurns o_foundSlowed o_howFar o_tones) s.heap.size = A at hD hZ ⊢
  have hA : ∀ q : Nat, s.heap.size ≤ q → A q := fun q h => by rw [← hAe]; exact Or.inr h
  clear hAe hD0
  have hS : va_S A s.heap s.heap [] := va_S.rf
  have hl := lv_entry ([.ref h_o, .int x1]) (n := 5) (Nat.le_of_ble_eq_true rfl)
  rw [lg_entry_eq]
  generalize (lg_sl ([.ref h_o, .int x1]) ++ List.replicate (5 - (lg_sl ([.ref h_o, .int x1])).length) Slot.unset).toArray = ls at hl ⊢
  have hl : lv_has ls 5 [(0, .ref h_o), (1, .int x1)] := hl
  refine kW (fun Q hQ => ?_)
  have hq0 := hts _ (List.mem_cons_of_mem _ q_117)
  have hi5 : ∀ w ∈ u_ws RX5 TX5 20, w ∈ wsX5_leaveOut := fun w h => List.mem_cons_of_mem _ (inX5 w h)
  have hq2 := hts _ (List.mem_cons_of_mem _ q_118)
  have hq3 := hts _ (List.mem_cons_of_mem _ q_121)
  have hq4 := hts _ (List.mem_cons_of_mem _ q_124)
  have hw := hf
  have w38 : ∀ (n : Nat), ∀ (v1 : Int32) (v2 : Int32) (v3 : Int32) (o_fuel : Int32) (o_howFar : Nat → Int32) (o_tones : Nat → Int32) (H : Heap) (locs : List Loc), va_P (dC, dI) vwCl (W_X5_leaveOut cyI cyJ cyO h_o a_o_howFar a_o_tones a_o_only a_o_fars a_o_cellAt a_o_ends a_o_seen a_o_begun o_last o_turnsLet o_slowsLet o_fuel o_glide o_count o_weightSum o_toPass o_foundNumber o_foundWeight o_foundTurns o_foundSlowed o_howFar o_tones) H → va_D A (W_X5_leaveOut cyI cyJ cyO h_o a_o_howFar a_o_tones a_o_only a_o_fars a_o_cellAt a_o_ends a_o_seen a_o_begun o_last o_turnsLet o_slowsLet o_fuel o_glide o_count o_weightSum o_toPass o_foundNumber o_foundWeight o_foundTurns o_foundSlowed o_howFar o_tones) → va_S A s.heap H locs → ∀ (ls : Array Slot), lv_has ls 5 [(0, .ref h_o), (1, .int v1), (2, .int v2), (3, .int v3)] → okP (f_X5_leaveOut_L38 n v1 v2 v3 o_last o_fuel o_howFar o_tones) post → W p l e (headSpec wsX5_leaveOut rm_X5_leaveOut).room s m ([.ref h_o, .int x1] : List Value).toArray below meth c H locs 0 0 Q (F0 m 38 ls []) := by
    intro n
    induction n with
    | zero =>
      intro v1 v2 v3 o_fuel o_howFar o_tones H locs hP hD hS ls hl hw
      exact (ok0 hw).elim
    | succ n38 ih38 =>
      have w128 : ∀ (v1 : Int32) (v2 : Int32) (v3 : Int32) (o_fuel : Int32) (o_howFar : Nat → Int32) (o_tones : Nat → Int32) (H : Heap) (locs : List Loc), va_P (dC, dI) vwCl (W_X5_leaveOut cyI cyJ cyO h_o a_o_howFar a_o_tones a_o_only a_o_fars a_o_cellAt a_o_ends a_o_seen a_o_begun o_last o_turnsLet o_slowsLet o_fuel o_glide o_count o_weightSum o_toPass o_foundNumber o_foundWeight o_foundTurns o_foundSlowed o_howFar o_tones) H → va_D A (W_X5_leaveOut cyI cyJ cyO h_o a_o_howFar a_o_tones a_o_only a_o_fars a_o_cellAt a_o_ends a_o_seen a_o_begun o_last o_turnsLet o_slowsLet o_fuel o_glide o_count o_weightSum o_toPass o_foundNumber o_foundWeight o_foundTurns o_foundSlowed o_howFar o_tones) → va_S A s.heap H locs → ∀ (ls : Array Slot), lv_has ls 5 [(0, .ref h_o), (1, .int v1), (2, .int v2), (3, .int v3)] → okP (f_X5_leaveOut_B128 (f_X5_leaveOut_L38 n38) v1 v2 v3 o_last o_fuel o_howFar o_tones) post → W p l e (headSpec wsX5_leaveOut rm_X5_leaveOut).room s m ([.ref h_o, .int x1] : List Value).toArray below meth c H locs 0 0 Q (F0 m 128 ls []) := by
        intro v1 v2 v3 o_fuel o_howFar o_tones H locs hP hD hS ls hl hw
        unfold f_X5_leaveOut_B128 at hw
        obtain ⟨x_1, ex_1⟩ : ∃ y : Int32, y = v3 + 1 := ⟨_, rfl⟩
        replace hw := okN ex_1 hw
        refine lv_iinc (v := x_1) (lv' := [(3, .int x_1), (0, .ref h_o), (1, .int v1), (2, .int v2)]) hx hb dX5_leaveOut_128 hl (k := 3) rfl (by rw [ex_1]; rfl) (by decide) rfl (fun ls hl => ?_)
        clear ex_1
        refine lv_goto (tgt := 38) hx hb dX5_leaveOut_131 (by decide) ?_
        exact ih38 v1 v2 x_1 o_fuel o_howFar o_tones _ _ hP hD hS _ (lv_sub hl [1, 2, 3, 0] rfl) hw
      have w116 : ∀ (v1 : Int32) (v2 : Int32) (v3 : Int32) (v4 : Int32) (o_fuel : Int32) (o_howFar : Nat → Int32) (o_tones : Nat → Int32) (H : Heap) (locs : List Loc), va_P (dC, dI) vwCl (W_X5_leaveOut cyI cyJ cyO h_o a_o_howFar a_o_tones a_o_only a_o_fars a_o_cellAt a_o_ends a_o_seen a_o_begun o_last o_turnsLet o_slowsLet o_fuel o_glide o_count o_weightSum o_toPass o_foundNumber o_foundWeight o_foundTurns o_foundSlowed o_howFar o_tones) H → va_D A (W_X5_leaveOut cyI cyJ cyO h_o a_o_howFar a_o_tones a_o_only a_o_fars a_o_cellAt a_o_ends a_o_seen a_o_begun o_last o_turnsLet o_slowsLet o_fuel o_glide o_count o_weightSum o_toPass o_foundNumber o_foundWeight o_foundTurns o_foundSlowed o_howFar o_tones) → va_S A s.heap H locs → ∀ (ls : Array Slot), lv_has ls 5 [(0, .ref h_o), (1, .int v1), (2, .int v2), (3, .int v3), (4, .int v4)] → okP (f_X5_leaveOut_B116 (f_X5_leaveOut_L38 n38) v1 v2 v3 v4 o_last o_fuel o_howFar o_tones) post → W p l e (headSpec wsX5_leaveOut rm_X5_leaveOut).room s m ([.ref h_o, .int x1] : List Value).toArray below meth c H locs 0 0 Q (F0 m 116 ls []) := by
        intro v1 v2 v3 v4 o_fuel o_howFar o_tones H locs hP hD hS ls hl hw
        unfold f_X5_leaveOut_B116 at hw
        refine lv_iload hx hb dX5_leaveOut_116 (lv_at hl 4 rfl) ?_
        refine lv_if_eq (tgt := 128) hx hb dX5_leaveOut_118 (by decide) (fun c_2 => ?_) (fun c_2 => ?_)
        · replace hw := okT hw c_2
          clear c_2
          exact w128 v1 v2 v3 o_fuel o_howFar o_tones _ _ hP hD hS _ (lv_sub hl [0, 1, 2, 3] rfl) hw
        · replace hw := okF hw c_2
          clear c_2
          refine lv_aload_n hx hb dX5_leaveOut_121 rfl (lv_at hl 0 rfl) ?_
          refine va_get (D := (dC, dI)) (ci := 5) (v := .ref a_o_howFar) (C := RX5) (T := TX5) (N := 20) hx hb hts hi5 hown hK hP 0 rfl rfl 0 (by decide) hq0 (fun _ h9 => h9) rfl dX5_leaveOut_122 ?_
          refine lv_iload_n hx hb dX5_leaveOut_125 rfl (lv_at hl 3 rfl) ?_
          refine lv_iconst (v := (-1)) hx hb dX5_leaveOut_126 (by decide) ?_
          obtain ⟨h_3, hw⟩ := okC hw
          refine va_iast (i := v3) (x := (-1)) hx hb hK hP hD hS 1 0 rfl rfl h_3 dX5_leaveOut_127 (fun H locs hP hD hS => ?_)
          have hP : va_P (dC, dI) vwCl (W_X5_leaveOut cyI cyJ cyO h_o a_o_howFar a_o_tones a_o_only a_o_fars a_o_cellAt a_o_ends a_o_seen a_o_begun o_last o_turnsLet o_slowsLet o_fuel o_glide o_count o_weightSum o_toPass o_foundNumber o_foundWeight o_foundTurns o_foundSlowed (upd o_howFar v3.toNatClampNeg (-1)) o_tones) H := hP
          have hD : va_D A (W_X5_leaveOut cyI cyJ cyO h_o a_o_howFar a_o_tones a_o_only a_o_fars a_o_cellAt a_o_ends a_o_seen a_o_begun o_last o_turnsLet o_slowsLet o_fuel o_glide o_count o_weightSum o_toPass o_foundNumber o_foundWeight o_foundTurns o_foundSlowed (upd o_howFar v3.toNatClampNeg (-1)) o_tones) := hD
          exact w128 v1 v2 v3 o_fuel (upd o_howFar v3.toNatClampNeg (-1)) o_tones _ _ hP hD hS _ (lv_sub hl [0, 1, 2, 3] rfl) hw
      have w107 : ∀ (v1 : Int32) (v3 : Int32) (v4 : Int32) (y0 : Int32) (y1 : Int32) (o_fuel : Int32) (o_howFar : Nat → Int32) (o_tones : Nat → Int32) (H : Heap) (locs : List Loc), va_P (dC, dI) vwCl (W_X5_leaveOut cyI cyJ cyO h_o a_o_howFar a_o_tones a_o_only a_o_fars a_o_cellAt a_o_ends a_o_seen a_o_begun o_last o_turnsLet o_slowsLet o_fuel o_glide o_count o_weightSum o_toPass o_foundNumber o_foundWeight o_foundTurns o_foundSlowed o_howFar o_tones) H → va_D A (W_X5_leaveOut cyI cyJ cyO h_o a_o_howFar a_o_tones a_o_only a_o_fars a_o_cellAt a_o_ends a_o_seen a_o_begun o_last o_turnsLet o_slowsLet o_fuel o_glide o_count o_weightSum o_toPass o_foundNumber o_foundWeight o_foundTurns o_foundSlowed o_howFar o_tones) → va_S A s.heap H locs → ∀ (ls : Array Slot), lv_has ls 5 [(0, .ref h_o), (1, .int v1), (3, .int v3), (4, .int v4)] → okP (f_X5_leaveOut_B107 (f_X5_leaveOut_L38 n38) v1 v3 v4 y0 y1 o_last o_fuel o_howFar o_tones) post → W p l e (headSpec wsX5_leaveOut rm_X5_leaveOut).room s m ([.ref h_o, .int x1] : List Value).toArray below meth c H locs 0 0 Q (F0 m 107 ls [.int y0, .int y1]) := by
        intro v1 v3 v4 y0 y1 o_fuel o_howFar o_tones H locs hP hD hS ls hl hw
        unfold f_X5_leaveOut_B107 at hw
        refine lv_ior hx hb dX5_leaveOut_107 ?_
        refine lv_topi (fun x_4 ex_4 => ?_)
        replace hw := okN ex_4 hw
        clear ex_4
        refine lv_istore_n (lv' := [(2, .int x_4), (0, .ref h_o), (1, .int v1), (3, .int v3), (4, .int v4)]) hx hb dX5_leaveOut_108 rfl hl (by decide) rfl (fun ls hl => ?_)
        refine lv_aload_n hx hb dX5_leaveOut_109 rfl (lv_at hl 1 rfl) ?_
        refine va_get (D := (dC, dI)) (ci := 5) (v := .ref a_o_tones) (C := RX5) (T := TX5) (N := 20) hx hb hts hi5 hown hK hP 0 rfl rfl 1 (by decide) hq2 (fun _ h9 => h9) rfl dX5_leaveOut_110 ?_
        refine lv_iload_n hx hb dX5_leaveOut_113 rfl (lv_at hl 3 rfl) ?_
        refine lv_iconst (v := 0) hx hb dX5_leaveOut_114 (by decide) ?_
        obtain ⟨h_5, hw⟩ := okC hw
        refine va_iast (i := v3) (x := 0) hx hb hK hP hD hS 2 0 rfl rfl h_5 dX5_leaveOut_115 (fun H locs hP hD hS => ?_)
        have hP : va_P (dC, dI) vwCl (W_X5_leaveOut cyI cyJ cyO h_o a_o_howFar a_o_tones a_o_only a_o_fars a_o_cellAt a_o_ends a_o_seen a_o_begun o_last o_turnsLet o_slowsLet o_fuel o_glide o_count o_weightSum o_toPass o_foundNumber o_foundWeight o_foundTurns o_foundSlowed o_howFar (upd o_tones v3.toNatClampNeg 0)) H := hP
        have hD : va_D A (W_X5_leaveOut cyI cyJ cyO h_o a_o_howFar a_o_tones a_o_only a_o_fars a_o_cellAt a_o_ends a_o_seen a_o_begun o_last o_turnsLet o_slowsLet o_fuel o_glide o_count o_weightSum o_toPass o_foundNumber o_foundWeight o_foundTurns o_foundSlowed o_howFar (upd o_tones v3.toNatClampNeg 0)) := hD
        exact w116 v1 x_4 v3 v4 o_fuel o_howFar (upd o_tones v3.toNatClampNeg 0) _ _ hP hD hS _ (lv_sub hl [1, 2, 0, 3, 4] rfl) hw
      have w106 : ∀ (v1 : Int32) (v3 : Int32) (v4 : Int32) (y0 : Int32) (o_fuel : Int32) (o_howFar : Nat → Int32) (o_tones : Nat → Int32) (H : Heap) (locs : List Loc), va_P (dC, dI) vwCl (W_X5_leaveOut cyI cyJ cyO h_o a_o_howFar a_o_tones a_o_only a_o_fars a_o_cellAt a_o_ends a_o_seen a_o_begun o_last o_turnsLet o_slowsLet o_fuel o_glide o_count o_weightSum o_toPass o_foundNumber o_foundWeight o_foundTurns o_foundSlowed o_howFar o_tones) H → va_D A (W_X5_leaveOut cyI cyJ cyO h_o a_o_howFar a_o_tones a_o_only a_o_fars a_o_cellAt a_o_ends a_o_seen a_o_begun o_last o_turnsLet o_slowsLet o_fuel o_glide o_count o_weightSum o_toPass o_foundNumber o_foundWeight o_foundTurns o_foundSlowed o_howFar o_tones) → va_S A s.heap H locs → ∀ (ls : Array Slot), lv_has ls 5 [(0, .ref h_o), (1, .int v1), (3, .int v3), (4, .int v4)] → okP (f_X5_leaveOut_B106 (f_X5_leaveOut_L38 n38) v1 v3 v4 y0 o_last o_fuel o_howFar o_tones) post → W p l e (headSpec wsX5_leaveOut rm_X5_leaveOut).room s m ([.ref h_o, .int x1] : List Value).toArray below meth c H locs 0 0 Q (F0 m 106 ls [.int y0]) := by
        intro v1 v3 v4 y0 o_fuel o_howFar o_tones H locs hP hD hS ls hl hw
        unfold f_X5_leaveOut_B106 at hw
        refine lv_iconst (v := 0) hx hb dX5_leaveOut_106 (by decide) ?_
        exact w107 v1 v3 v4 0 y0 o_fuel o_howFar o_tones _ _ hP hD hS _ (lv_sub hl [0, 1, 2, 3] rfl) hw
      have w102 : ∀ (v1 : Int32) (v3 : Int32) (v4 : Int32) (y0 : Int32) (o_fuel : Int32) (o_howFar : Nat → Int32) (o_tones : Nat → Int32) (H : Heap) (locs : List Loc), va_P (dC, dI) vwCl (W_X5_leaveOut cyI cyJ cyO h_o a_o_howFar a_o_tones a_o_only a_o_fars a_o_cellAt a_o_ends a_o_seen a_o_begun o_last o_turnsLet o_slowsLet o_fuel o_glide o_count o_weightSum o_toPass o_foundNumber o_foundWeight o_foundTurns o_foundSlowed o_howFar o_tones) H → va_D A (W_X5_leaveOut cyI cyJ cyO h_o a_o_howFar a_o_tones a_o_only a_o_fars a_o_cellAt a_o_ends a_o_seen a_o_begun o_last o_turnsLet o_slowsLet o_fuel o_glide o_count o_weightSum o_toPass o_foundNumber o_foundWeight o_foundTurns o_foundSlowed o_howFar o_tones) → va_S A s.heap H locs → ∀ (ls : Array Slot), lv_has ls 5 [(0, .ref h_o), (1, .int v1), (3, .int v3), (4, .int v4)] → okP (f_X5_leaveOut_B102 (f_X5_leaveOut_L38 n38) v1 v3 v4 y0 o_last o_fuel o_howFar o_tones) post → W p l e (headSpec wsX5_leaveOut rm_X5_leaveOut).room s m ([.ref h_o, .int x1] : List Value).toArray below meth c H locs 0 0 Q (F0 m 102 ls [.int y0]) := by
        intro v1 v3 v4 y0 o_fuel o_howFar o_tones H locs hP hD hS ls hl hw
        unfold f_X5_leaveOut_B102 at hw
        refine lv_iconst (v := 1) hx hb dX5_leaveOut_102 (by decide) ?_
        refine lv_goto (tgt := 107) hx hb dX5_leaveOut_103 (by decide) ?_
        exact w107 v1 v3 v4 1 y0 o_fuel o_howFar o_tones _ _ hP hD hS _ (lv_sub hl [0, 1, 2, 3] rfl) hw
      have w69 : ∀ (v1 : Int32) (v2 : Int32) (v3 : Int32) (v4 : Int32) (o_fuel : Int32) (o_howFar : Nat → Int32) (o_tones : Nat → Int32) (H : Heap) (locs : List Loc), va_P (dC, dI) vwCl (W_X5_leaveOut cyI cyJ cyO h_o a_o_howFar a_o_tones a_o_only a_o_fars a_o_cellAt a_o_ends a_o_seen a_o_begun o_last o_turnsLet o_slowsLet o_fuel o_glide o_count o_weightSum o_toPass o_foundNumber o_foundWeight o_foundTurns o_foundSlowed o_howFar o_tones) H → va_D A (W_X5_leaveOut cyI cyJ cyO h_o a_o_howFar a_o_tones a_o_only a_o_fars a_o_cellAt a_o_ends a_o_seen a_o_begun o_last o_turnsLet o_slowsLet o_fuel o_glide o_count o_weightSum o_toPass o_foundNumber o_foundWeight o_foundTurns o_foundSlowed o_howFar o_tones) → va_S A s.heap H locs → ∀ (ls : Array Slot), lv_has ls 5 [(0, .ref h_o), (1, .int v1), (2, .int v2), (3, .int v3), (4, .int v4)] → okP (f_X5_leaveOut_B69 (f_X5_leaveOut_L38 n38) v1 v2 v3 v4 o_last o_fuel o_howFar o_tones) post → W p l e (headSpec wsX5_leaveOut rm_X5_leaveOut).room s m ([.ref h_o, .int x1] : List Value).toArray below meth c H locs 0 0 Q (F0 m 69 ls []) := by
        intro v1 v2 v3 v4 o_fuel o_howFar o_tones H locs hP hD hS ls hl hw
        unfold f_X5_leaveOut_B69 at hw
        refine lv_iload_n hx hb dX5_leaveOut_69 rfl (lv_at hl 2 rfl) ?_
        refine lv_iload_n hx hb dX5_leaveOut_70 rfl (lv_at hl 3 rfl) ?_
        refine lv_aload_n hx hb dX5_leaveOut_71 rfl (lv_at hl 0 rfl) ?_
        refine va_get (D := (dC, dI)) (ci := 5) (v := .int o_last) (C := RX5) (T := TX5) (N := 20) hx hb hts hi5 hown hK hP 0 rfl rfl 4 (by decide) hq3 (fun _ h9 => h9) rfl dX5_leaveOut_72 ?_
        refine lv_icmp_gt (tgt := 106) hx hb dX5_leaveOut_75 (by decide) (fun c_6 => ?_) (fun c_6 => ?_)
        · replace hw := okT hw c_6
          clear c_6
          exact w106 v1 v3 v4 v2 o_fuel o_howFar o_tones _ _ hP hD hS _ (lv_sub hl [0, 1, 3, 4] rfl) hw
        · replace hw := okF hw c_6
          clear c_6
          refine lv_aload_n hx hb dX5_leaveOut_78 rfl (lv_at hl 0 rfl) ?_
          refine va_get (D := (dC, dI)) (ci := 5) (v := .ref a_o_tones) (C := RX5) (T := TX5) (N := 20) hx hb hts hi5 hown hK hP 0 rfl rfl 1 (by decide) hq2 (fun _ h9 => h9) rfl dX5_leaveOut_79 ?_
          refine lv_iload_n hx hb dX5_leaveOut_82 rfl (lv_at hl 3 rfl) ?_
          obtain ⟨h_7, hw⟩ := okC hw
          refine va_iald (i := v3) hx hb hK hP 2 0 rfl rfl h_7 dX5_leaveOut_83 ?_
          refine lv_if_ne (tgt := 102) hx hb dX5_leaveOut_84 (by decide) (fun c_8 => ?_) (fun c_8 => ?_)
          · replace hw := okF hw c_8
            clear c_8
            exact w102 v1 v3 v4 v2 o_fuel o_howFar o_tones _ _ hP hD hS _ (lv_sub hl [0, 1, 3, 4] rfl) hw
          · replace hw := okT hw c_8
            clear c_8
            refine lv_iload hx hb dX5_leaveOut_87 (lv_at hl 4 rfl) ?_
            refine lv_if_eq (tgt := 106) hx hb dX5_leaveOut_89 (by decide) (fun c_9 => ?_) (fun c_9 => ?_)
            · replace hw := okT hw c_9
              clear c_9
              exact w106 v1 v3 v4 v2 o_fuel o_howFar o_tones _ _ hP hD hS _ (lv_sub hl [0, 1, 3, 4] rfl) hw
            · replace hw := okF hw c_9
              clear c_9
              refine lv_aload_n hx hb dX5_leaveOut_92 rfl (lv_at hl 0 rfl) ?_
              refine va_get (D := (dC, dI)) (ci := 5) (v := .ref a_o_howFar) (C := RX5) (T := TX5) (N := 20) hx hb hts hi5 hown hK hP 0 rfl rfl 0 (by decide) hq0 (fun _ h9 => h9) rfl dX5_leaveOut_93 ?_
              refine lv_iload_n hx hb dX5_leaveOut_96 rfl (lv_at hl 3 rfl) ?_
              obtain ⟨h_10, hw⟩ := okC hw
              refine va_iald (i := v3) hx hb hK hP 1 0 rfl rfl h_10 dX5_leaveOut_97 ?_
              refine lv_iconst (v := (-1)) hx hb dX5_leaveOut_98 (by decide) ?_
              refine lv_icmp_eq (tgt := 106) hx hb dX5_leaveOut_99 (by decide) (fun c_11 => ?_) (fun c_11 => ?_)
              · replace hw := okT hw c_11
                clear c_11
                exact w106 v1 v3 v4 v2 o_fuel o_howFar o_tones _ _ hP hD hS _ (lv_sub hl [0, 1, 3, 4] rfl) hw
              · replace hw := okF hw c_11
                clear c_11
                exact w102 v1 v3 v4 v2 o_fuel o_howFar o_tones _ _ hP hD hS _ (lv_sub hl [0, 1, 3, 4] rfl) hw
      have w56 : ∀ (v1 : Int32) (v2 : Int32) (v3 : Int32) (y0 : Int32) (o_fuel : Int32) (o_howFar : Nat → Int32) (o_tones : Nat → Int32) (H : Heap) (locs : List Loc), va_P (dC, dI) vwCl (W_X5_leaveOut cyI cyJ cyO h_o a_o_howFar a_o_tones a_o_only a_o_fars a_o_cellAt a_o_ends a_o_seen a_o_begun o_last o_turnsLet o_slowsLet o_fuel o_glide o_count o_weightSum o_toPass o_foundNumber o_foundWeight o_foundTurns o_foundSlowed o_howFar o_tones) H → va_D A (W_X5_leaveOut cyI cyJ cyO h_o a_o_howFar a_o_tones a_o_only a_o_fars a_o_cellAt a_o_ends a_o_seen a_o_begun o_last o_turnsLet o_slowsLet o_fuel o_glide o_count o_weightSum o_toPass o_foundNumber o_foundWeight o_foundTurns o_foundSlowed o_howFar o_tones) → va_S A s.heap H locs → ∀ (ls : Array Slot), lv_has ls 5 [(0, .ref h_o), (1, .int v1), (2, .int v2), (3, .int v3)] → okP (f_X5_leaveOut_B56 (f_X5_leaveOut_L38 n38) v1 v2 v3 y0 o_last o_fuel o_howFar o_tones) post → W p l e (headSpec wsX5_leaveOut rm_X5_leaveOut).room s m ([.ref h_o, .int x1] : List Value).toArray below meth c H locs 0 0 Q (F0 m 56 ls [.int y0]) := by
        intro v1 v2 v3 y0 o_fuel o_howFar o_tones H locs hP hD hS ls hl hw
        unfold f_X5_leaveOut_B56 at hw
        refine lv_istore (lv' := [(4, .int y0), (0, .ref h_o), (1, .int v1), (2, .int v2), (3, .int v3)]) hx hb dX5_leaveOut_56 hl (by decide) rfl (fun ls hl => ?_)
        refine lv_iload hx hb dX5_leaveOut_58 (lv_at hl 0 rfl) ?_
        refine lv_if_ne (tgt := 69) hx hb dX5_leaveOut_60 (by decide) (fun c_12 => ?_) (fun c_12 => ?_)
        · replace hw := okF hw c_12
          clear c_12
          exact w69 v1 v2 v3 y0 o_fuel o_howFar o_tones _ _ hP hD hS _ (lv_sub hl [1, 2, 3, 4, 0] rfl) hw
        · replace hw := okT hw c_12
          clear c_12
          refine lv_iload_n hx hb dX5_leaveOut_63 rfl (lv_at hl 2 rfl) ?_
          refine lv_bipush (v := 6) hx hb dX5_leaveOut_64 (by decide) ?_
          refine lv_icmp_ne (tgt := 116) hx hb dX5_leaveOut_66 (by decide) (fun c_13 => ?_) (fun c_13 => ?_)
          · replace hw := okF hw c_13
            clear c_13
            exact w116 v1 v2 v3 y0 o_fuel o_howFar o_tones _ _ hP hD hS _ (lv_sub hl [1, 2, 3, 4, 0] rfl) hw
          · replace hw := okT hw c_13
            clear c_13
            exact w69 v1 v2 v3 y0 o_fuel o_howFar o_tones _ _ hP hD hS _ (lv_sub hl [1, 2, 3, 4, 0] rfl) hw
      intro v1 v2 v3 o_fuel o_howFar o_tones H locs hP hD hS ls hl hw
      replace hw : okP (f_X5_leaveOut_L38b (f_X5_leaveOut_L38 n38) v1 v2 v3 o_last o_fuel o_howFar o_tones) post := hw
      unfold f_X5_leaveOut_L38b at hw
      refine lv_iload_n hx hb dX5_leaveOut_38 rfl (lv_at hl 3 rfl) ?_
      refine lv_bipush (v := 6) hx hb dX5_leaveOut_39 (by decide) ?_
      refine lv_icmp_gt (tgt := 134) hx hb dX5_leaveOut_41 (by decide) (fun c_14 => ?_) (fun c_14 => ?_)
      · replace hw := okT hw c_14
        clear c_14
        refine lv_iload_n hx hb dX5_leaveOut_134 rfl (lv_at hl 2 rfl) ?_
        obtain ⟨h_15, hw⟩ := okC hw
        rw [hQ]
        exact W.zret (v := v2) hx hb hr (nbZ h_15) (fun t ht hW => ⟨⟨v2, (o_fuel, o_howFar, o_tones), rfl, okS hw, by rw [ht]; exact hP, va_K.moved hW.alike hK, hD⟩, hS.F ht⟩) hS.2.2 dX5_leaveOut_135
      · replace hw := okF hw c_14
        clear c_14
        refine lv_iload_n hx hb dX5_leaveOut_44 rfl (lv_at hl 1 rfl) ?_
        refine lv_iload_n hx hb dX5_leaveOut_45 rfl (lv_at hl 3 rfl) ?_
        refine lv_iconst (v := 1) hx hb dX5_leaveOut_46 (by decide) ?_
        refine lv_isub hx hb dX5_leaveOut_47 ?_
        refine lv_icmp_ne (tgt := 55) hx hb dX5_leaveOut_48 (by decide) (fun c_16 => ?_) (fun c_16 => ?_)
        · replace hw := okF hw c_16
          clear c_16
          refine lv_iconst (v := 0) hx hb dX5_leaveOut_55 (by decide) ?_
          exact w56 v1 v2 v3 0 o_fuel o_howFar o_tones _ _ hP hD hS _ (lv_sub hl [0, 1, 2, 3] rfl) hw
        · replace hw := okT hw c_16
          clear c_16
          refine lv_iconst (v := 1) hx hb dX5_leaveOut_51 (by decide) ?_
          refine lv_goto (tgt := 56) hx hb dX5_leaveOut_52 (by decide) ?_
          exact w56 v1 v2 v3 1 o_fuel o_howFar o_tones _ _ hP hD hS _ (lv_sub hl [0, 1, 2, 3] rfl) hw
  have w25 : ∀ (y0 : Int32) (o_fuel : Int32) (o_howFar : Nat → Int32) (o_tones : Nat → Int32) (H : Heap) (locs : List Loc), va_P (dC, dI) vwCl (W_X5_leaveOut cyI cyJ cyO h_o a_o_howFar a_o_tones a_o_only a_o_fars a_o_cellAt a_o_ends a_o_seen a_o_begun o_last o_turnsLet o_slowsLet o_fuel o_glide o_count o_weightSum o_toPass o_foundNumber o_foundWeight o_foundTurns o_foundSlowed o_howFar o_tones) H → va_D A (W_X5_leaveOut cyI cyJ cyO h_o a_o_howFar a_o_tones a_o_only a_o_fars a_o_cellAt a_o_ends a_o_seen a_o_begun o_last o_turnsLet o_slowsLet o_fuel o_glide o_count o_weightSum o_toPass o_foundNumber o_foundWeight o_foundTurns o_foundSlowed o_howFar o_tones) → va_S A s.heap H locs → ∀ (ls : Array Slot), lv_has ls 5 [(0, .ref h_o)] → okP (f_X5_leaveOut_B25 y0 o_last o_fuel o_howFar o_tones) post → W p l e (headSpec wsX5_leaveOut rm_X5_leaveOut).room s m ([.ref h_o, .int x1] : List Value).toArray below meth c H locs 0 0 Q (F0 m 25 ls [.int y0]) := by
    intro y0 o_fuel o_howFar o_tones H locs hP hD hS ls hl hw
    unfold f_X5_leaveOut_B25 at hw
    refine lv_istore_n (lv' := [(2, .int y0), (0, .ref h_o)]) hx hb dX5_leaveOut_25 rfl hl (by decide) rfl (fun ls hl => ?_)
    refine lv_aload_n hx hb dX5_leaveOut_26 rfl (lv_at hl 1 rfl) ?_
    refine lv_bipush (v := 54) hx hb dX5_leaveOut_27 (by decide) ?_
    refine va_put (D := (dC, dI)) (ci := 5) (v := .int 54) (ty := .int) (C := RX5) (T := TX5) (N := 20) hx hb hts hi5 tyX5 tyX5_ok nmX5 hown hK hP hD hS 0 rfl rfl 7 (by decide) hq4 (fun _ h9 => h9) rfl (by decide +kernel) rfl rfl (Nat.le_of_ble_eq_true rfl) dX5_leaveOut_29 (fun H locs hP hD hS => ?_)
    have hP : va_P (dC, dI) vwCl (W_X5_leaveOut cyI cyJ cyO h_o a_o_howFar a_o_tones a_o_only a_o_fars a_o_cellAt a_o_ends a_o_seen a_o_begun o_last o_turnsLet o_slowsLet 54 o_glide o_count o_weightSum o_toPass o_foundNumber o_foundWeight o_foundTurns o_foundSlowed o_howFar o_tones) H := hP
    have hD : va_D A (W_X5_leaveOut cyI cyJ cyO h_o a_o_howFar a_o_tones a_o_only a_o_fars a_o_cellAt a_o_ends a_o_seen a_o_begun o_last o_turnsLet o_slowsLet 54 o_glide o_count o_weightSum o_toPass o_foundNumber o_foundWeight o_foundTurns o_foundSlowed o_howFar o_tones) := hD
    refine lv_iload_n hx hb dX5_leaveOut_32 rfl (lv_at hl 0 rfl) ?_
    obtain ⟨h_17, hw⟩ := okC hw
    rw [hQ]
    exact W.zret (v := y0) hx hb hr (nbZ h_17) (fun t ht hW => ⟨⟨y0, (54, o_howFar, o_tones), rfl, okS hw, by rw [ht]; exact hP, va_K.moved hW.alike hK, hD⟩, hS.F ht⟩) hS.2.2 dX5_leaveOut_33
  unfold f_X5_leaveOut at hw
  have hP : va_P (dC, dI) vwCl (W_X5_leaveOut cyI cyJ cyO h_o a_o_howFar a_o_tones a_o_only a_o_fars a_o_cellAt a_o_ends a_o_seen a_o_begun o_last o_turnsLet o_slowsLet o_fuel o_glide o_count o_weightSum o_toPass o_foundNumber o_foundWeight o_foundTurns o_foundSlowed o_howFar o_tones) s.heap := hP
  obtain ⟨H, hH⟩ : ∃ H, H = s.heap := ⟨_, rfl⟩
  obtain ⟨locs, hlo⟩ : ∃ x : List Loc, x = [] := ⟨_, rfl⟩
  have hP : va_P (dC, dI) vwCl (W_X5_leaveOut cyI cyJ cyO h_o a_o_howFar a_o_tones a_o_only a_o_fars a_o_cellAt a_o_ends a_o_seen a_o_begun o_last o_turnsLet o_slowsLet o_fuel o_glide o_count o_weightSum o_toPass o_foundNumber o_foundWeight o_foundTurns o_foundSlowed o_howFar o_tones) H := by rw [hH]; exact hP
  have hS : va_S A s.heap H locs := by rw [hH, hlo]; exact hS
  refine kH hH hlo ?_
  clear hH hlo
  refine lv_iload_n hx hb dX5_leaveOut_0 rfl (lv_at hl 1 rfl) ?_
  refine lv_bipush (v := 7) hx hb dX5_leaveOut_1 (by decide) ?_
  refine lv_icmp_ne (tgt := 34) hx hb dX5_leaveOut_3 (by decide) (fun c_18 => ?_) (fun c_18 => ?_)
  · replace hw := okF hw c_18
    clear c_18
    refine lv_iconst (v := 0) hx hb dX5_leaveOut_34 (by decide) ?_
    refine lv_istore_n (lv' := [(2, .int 0), (0, .ref h_o), (1, .int x1)]) hx hb dX5_leaveOut_35 rfl hl (by decide) rfl (fun ls hl => ?_)
    refine lv_iconst (v := 1) hx hb dX5_leaveOut_36 (by decide) ?_
    refine lv_istore_n (lv' := [(3, .int 1), (2, .int 0), (0, .ref h_o), (1, .int x1)]) hx hb dX5_leaveOut_37 rfl hl (by decide) rfl (fun ls hl => ?_)
    exact w38 FU x1 0 1 o_fuel o_howFar o_tones _ _ hP hD hS _ (lv_sub hl [2, 3, 1, 0] rfl) hw
  · replace hw := okT hw c_18
    clear c_18
    refine lv_aload_n hx hb dX5_leaveOut_6 rfl (lv_at hl 0 rfl) ?_
    refine va_get (D := (dC, dI)) (ci := 5) (v := .int o_fuel) (C := RX5) (T := TX5) (N := 20) hx hb hts hi5 hown hK hP 0 rfl rfl 7 (by decide) hq4 (fun _ h9 => h9) rfl dX5_leaveOut_7 ?_
    refine lv_bipush (v := 9) hx hb dX5_leaveOut_10 (by decide) ?_
    refine lv_aload_n hx hb dX5_leaveOut_12 rfl (lv_at hl 0 rfl) ?_
    refine va_get (D := (dC, dI)) (ci := 5) (v := .int o_last) (C := RX5) (T := TX5) (N := 20) hx hb hts hi5 hown hK hP 0 rfl rfl 4 (by decide) hq3 (fun _ h9 => h9) rfl dX5_leaveOut_13 ?_
    refine lv_imul hx hb dX5_leaveOut_16 ?_
    refine lv_icmp_ge (tgt := 24) hx hb dX5_leaveOut_17 (by decide) (fun c_19 => ?_) (fun c_19 => ?_)
    · replace hw := okT hw c_19
      clear c_19
      refine lv_iconst (v := 0) hx hb dX5_leaveOut_24 (by decide) ?_
      exact w25 0 o_fuel o_howFar o_tones _ _ hP hD hS _ (lv_sub hl [0] rfl) hw
    · replace hw := okF hw c_19
      clear c_19
      refine lv_iconst (v := 1) hx hb dX5_leaveOut_20 (by decide) ?_
      refine lv_goto (tgt := 25) hx hb dX5_leaveOut_21 (by decide) ?_
      exact w25 1 o_fuel o_howFar o_tones _ _ hP hD hS _ (lv_sub hl [0] rfl) hw
/-! ===== X5_isLet ===== -/
theorem dX5_isLet_0 : decode cX5_isLet 0 = .ok (.aload_n 0, 1) := by decide +kernel
theorem dX5_isLet_1 : decode cX5_isLet 1 = .ok (.getfield 18, 3) := by decide +kernel
theorem dX5_isLet_4 : decode cX5_isLet 4 = .ok (.iload_n 1, 1) := by decide +kernel
theorem dX5_isLet_5 : decode cX5_isLet 5 = .ok (.iaload, 1) := by decide +kernel
theorem dX5_isLet_6 : decode cX5_isLet 6 = .ok (.iconst (-1), 1) := by decide +kernel
theorem dX5_isLet_7 : decode cX5_isLet 7 = .ok (.if_icmp .eq 13, 3) := by decide +kernel
theorem dX5_isLet_10 : decode cX5_isLet 10 = .ok (.aload_n 0, 1) := by decide +kernel
theorem dX5_isLet_11 : decode cX5_isLet 11 = .ok (.getfield 18, 3) := by decide +kernel
theorem dX5_isLet_14 : decode cX5_isLet 14 = .ok (.iload_n 1, 1) := by decide +kernel
theorem dX5_isLet_15 : decode cX5_isLet 15 = .ok (.iaload, 1) := by decide +kernel
theorem dX5_isLet_16 : decode cX5_isLet 16 = .ok (.iload_n 2, 1) := by decide +kernel
theorem dX5_isLet_17 : decode cX5_isLet 17 = .ok (.if_icmp .ne 7, 3) := by decide +kernel
theorem dX5_isLet_20 : decode cX5_isLet 20 = .ok (.iconst 1, 1) := by decide +kernel
theorem dX5_isLet_21 : decode cX5_isLet 21 = .ok (.goto 4, 3) := by decide +kernel
theorem dX5_isLet_24 : decode cX5_isLet 24 = .ok (.iconst 0, 1) := by decide +kernel
theorem dX5_isLet_25 : decode cX5_isLet 25 = .ok (.ireturn, 1) := by decide +kernel
abbrev W_X5_isLet (cyI cyJ cyO : ClassId) (h_o a_o_howFar a_o_tones a_o_only a_o_fars a_o_cellAt a_o_ends a_o_seen a_o_begun : Nat) (o_last : Int32) (o_turnsLet : Int32) (o_slowsLet : Int32) (o_fuel : Int32) (o_glide : Int32) (o_count : Int32) (o_weightSum : Int64) (o_toPass : Int32) (o_foundNumber : Int32) (o_foundWeight : Int32) (o_foundTurns : Int32) (o_foundSlowed : Int32) (o_only : Nat → Int32) : va_W := [(h_o, .inr (5, [.ref a_o_howFar, .ref a_o_tones, .ref a_o_only, .ref a_o_fars, .int o_last, .int o_turnsLet, .int o_slowsLet, .int o_fuel, .int o_glide, .ref a_o_cellAt, .ref a_o_ends, .ref a_o_seen, .ref a_o_begun, .int o_count, .long o_weightSum, .int o_toPass, .int o_foundNumber, .int o_foundWeight, .int o_foundTurns, .int o_foundSlowed])), (a_o_only, .inl (cyI, 7, .inl o_only))]
def f_X5_isLet (x1 : Int32) (x2 : Int32) (o_only : Nat → Int32) : Option (Int32) :=
  chk (¬ (x1 < 0 ∨ 7 ≤ x1.toNatClampNeg)) <|
  if (o_only x1.toNatClampNeg) = (-1) then
    some 1
  else
    chk (¬ (x1 < 0 ∨ 7 ≤ x1.toNatClampNeg)) <|
    if (o_only x1.toNatClampNeg) = x2 then
      some 1
    else
      some 0
abbrev rm_X5_isLet : Room := { frames := 0, cells := 0, slots := 0, locals := 0 }
set_option maxRecDepth 100000 in
set_option maxHeartbeats 4000000 in
theorem c_X5_isLet (l : Launch) (dC : Nat → ClassId) (dI : Nat → Nat → Nat) (cyI cyJ cyO : ClassId) (sz : Nat) (h_o a_o_howFar a_o_tones a_o_only a_o_fars a_o_cellAt a_o_ends a_o_seen a_o_begun : Nat) (o_last : Int32) (o_turnsLet : Int32) (o_slowsLet : Int32) (o_fuel : Int32) (o_glide : Int32) (o_count : Int32) (o_weightSum : Int64) (o_toPass : Int32) (o_foundNumber : Int32) (o_foundWeight : Int32) (o_foundTurns : Int32) (o_foundSlowed : Int32) (o_only : Nat → Int32) (x1 : Int32) (x2 : Int32) (post : Int32 → Prop) (hf : okP (f_X5_isLet x1 x2 o_only) post) : Ci l (dC, dI) (tyL cyI cyJ cyO) yX5_isLet wsX5_isLet rm_X5_isLet [.ref h_o, .int x1, .int x2] sz (W_X5_isLet cyI cyJ cyO h_o a_o_howFar a_o_tones a_o_only a_o_fars a_o_cellAt a_o_ends a_o_seen a_o_begun o_last o_turnsLet o_slowsLet o_fuel o_glide o_count o_weightSum o_toPass o_foundNumber o_foundWeight o_foundTurns o_foundSlowed o_only) zN (fun r (_ : Unit) => post r) (fun _ => (W_X5_isLet cyI cyJ cyO h_o a_o_howFar a_o_tones a_o_only a_o_fars a_o_cellAt a_o_ends a_o_seen a_o_begun o_last o_turnsLet o_slowsLet o_fuel o_glide o_count o_weightSum o_toPass o_foundNumber o_foundWeight o_foundTurns o_foundSlowed o_only)) := by
  refine Met.ofW (cc := cX5_isLet) (maxL := 3) (ret := (some .boolean)) (by decide) rfl ?_
  intro p e s m args below meth c s₁ B hml hv
  obtain ⟨rfl, hsz, hP, hK, hD0, hZ⟩ := hv
  have hx := B.exec
  have hb := B.bytes
  have hr := B.returns
  have hts := atoms_spec (ws := wsX5_isLet) B.pre
  have hown : s.vm.findClass RX5 = some m.cls := findClass_of_methodNamed B.named
  have hlocks := B.notSynchronized
  subst hsz
  have hD := hD0.self (sz := s.heap.size)
  generalize hAe : va_A (W_X5_isLet cyI cyJ cyO h_o a_o_howFar a_o_tones a_o_only a_o_fars a_o_cellAt a_o_ends a_o_seen a_o_begun o_last o_turnsLet o_slowsLet o_fuel o_glide o_count o_weightSum o_toPass o_foundNumber o_foundWeight o_foundTurns o_foundSlowed o_only) s.heap.size = A at hD hZ ⊢
  have hA : ∀ q : Nat, s.heap.size ≤ q → A q := fun q h => by rw [← hAe]; exact Or.inr h
  clear hAe hD0
  have hS : va_S A s.heap s.heap [] := va_S.rf
  have hl := lv_entry ([.ref h_o, .int x1, .int x2]) (n := 3) (Nat.le_of_ble_eq_true rfl)
  rw [lg_entry_eq]
  generalize (lg_sl ([.ref h_o, .int x1, .int x2]) ++ List.replicate (3 - (lg_sl ([.ref h_o, .int x1, .int x2])).length) Slot.unset).toArray = ls at hl ⊢
  have hl : lv_has ls 3 [(0, .ref h_o), (1, .int x1), (2, .int x2)] := hl
  refine kW (fun Q hQ => ?_)
  have hq0 := hts _ (List.mem_cons_of_mem _ q_119)
  have hi5 : ∀ w ∈ u_ws RX5 TX5 20, w ∈ wsX5_isLet := fun w h => List.mem_cons_of_mem _ (inX5 w h)
  have hw := hf
  unfold f_X5_isLet at hw
  have hP : va_P (dC, dI) vwCl (W_X5_isLet cyI cyJ cyO h_o a_o_howFar a_o_tones a_o_only a_o_fars a_o_cellAt a_o_ends a_o_seen a_o_begun o_last o_turnsLet o_slowsLet o_fuel o_glide o_count o_weightSum o_toPass o_foundNumber o_foundWeight o_foundTurns o_foundSlowed o_only) s.heap := hP
  obtain ⟨H, hH⟩ : ∃ H, H = s.heap := ⟨_, rfl⟩
  obtain ⟨locs, hlo⟩ : ∃ x : List Loc, x = [] := ⟨_, rfl⟩
  have hP : va_P (dC, dI) vwCl (W_X5_isLet cyI cyJ cyO h_o a_o_howFar a_o_tones a_o_only a_o_fars a_o_cellAt a_o_ends a_o_seen a_o_begun o_last o_turnsLet o_slowsLet o_fuel o_glide o_count o_weightSum o_toPass o_foundNumber o_foundWeight o_foundTurns o_foundSlowed o_only) H := by rw [hH]; exact hP
  have hS : va_S A s.heap H locs := by rw [hH, hlo]; exact hS
  refine kH hH hlo ?_
  clear hH hlo
  refine lv_aload_n hx hb dX5_isLet_0 rfl (lv_at hl 0 rfl) ?_
  refine va_get (D := (dC, dI)) (ci := 5) (v := .ref a_o_only) (C := RX5) (T := TX5) (N := 20) hx hb hts hi5 hown hK hP 0 rfl rfl 2 (by decide) hq0 (fun _ h9 => h9) rfl dX5_isLet_1 ?_
  refine lv_iload_n hx hb dX5_isLet_4 rfl (lv_at hl 1 rfl) ?_
  obtain ⟨h_1, hw⟩ := okC hw
  refine va_iald (i := x1) hx hb hK hP 1 0 rfl rfl h_1 dX5_isLet_5 ?_
  refine lv_iconst (v := (-1)) hx hb dX5_isLet_6 (by decide) ?_
  refine lv_icmp_eq (tgt := 20) hx hb dX5_isLet_7 (by decide) (fun c_2 => ?_) (fun c_2 => ?_)
  · replace hw := okT hw c_2
    clear c_2
    refine lv_iconst (v := 1) hx hb dX5_isLet_20 (by decide) ?_
    refine lv_goto (tgt := 25) hx hb dX5_isLet_21 (by decide) ?_
    rw [hQ]
    exact W.zret (v := 1) hx hb hr (by decide) (fun t ht hW => ⟨⟨1, (), rfl, okS hw, by rw [ht]; exact hP, va_K.moved hW.alike hK, hD⟩, hS.F ht⟩) hS.2.2 dX5_isLet_25
  · replace hw := okF hw c_2
    clear c_2
    refine lv_aload_n hx hb dX5_isLet_10 rfl (lv_at hl 0 rfl) ?_
    refine va_get (D := (dC, dI)) (ci := 5) (v := .ref a_o_only) (C := RX5) (T := TX5) (N := 20) hx hb hts hi5 hown hK hP 0 rfl rfl 2 (by decide) hq0 (fun _ h9 => h9) rfl dX5_isLet_11 ?_
    refine lv_iload_n hx hb dX5_isLet_14 rfl (lv_at hl 1 rfl) ?_
    obtain ⟨h_3, hw⟩ := okC hw
    refine va_iald (i := x1) hx hb hK hP 1 0 rfl rfl h_3 dX5_isLet_15 ?_
    refine lv_iload_n hx hb dX5_isLet_16 rfl (lv_at hl 2 rfl) ?_
    refine lv_icmp_ne (tgt := 24) hx hb dX5_isLet_17 (by decide) (fun c_4 => ?_) (fun c_4 => ?_)
    · replace hw := okF hw c_4
      clear c_4
      refine lv_iconst (v := 0) hx hb dX5_isLet_24 (by decide) ?_
      rw [hQ]
      exact W.zret (v := 0) hx hb hr (by decide) (fun t ht hW => ⟨⟨0, (), rfl, okS hw, by rw [ht]; exact hP, va_K.moved hW.alike hK, hD⟩, hS.F ht⟩) hS.2.2 dX5_isLet_25
    · replace hw := okT hw c_4
      clear c_4
      refine lv_iconst (v := 1) hx hb dX5_isLet_20 (by decide) ?_
      refine lv_goto (tgt := 25) hx hb dX5_isLet_21 (by decide) ?_
      rw [hQ]
      exact W.zret (v := 1) hx hb hr (by decide) (fun t ht hW => ⟨⟨1, (), rfl, okS hw, by rw [ht]; exact hP, va_K.moved hW.alike hK, hD⟩, hS.F ht⟩) hS.2.2 dX5_isLet_25
/-! ===== X5_isFound ===== -/
theorem dX5_isFound_0 : decode cX5_isFound 0 = .ok (.aload_n 0, 1) := by decide +kernel
theorem dX5_isFound_1 : decode cX5_isFound 1 = .ok (.getfield 61, 3) := by decide +kernel
theorem dX5_isFound_4 : decode cX5_isFound 4 = .ok (.bipush (-2), 2) := by decide +kernel
theorem dX5_isFound_6 : decode cX5_isFound 6 = .ok (.if_icmp .ne 7, 3) := by decide +kernel
theorem dX5_isFound_9 : decode cX5_isFound 9 = .ok (.iconst 1, 1) := by decide +kernel
theorem dX5_isFound_10 : decode cX5_isFound 10 = .ok (.goto 4, 3) := by decide +kernel
theorem dX5_isFound_13 : decode cX5_isFound 13 = .ok (.iconst 0, 1) := by decide +kernel
theorem dX5_isFound_14 : decode cX5_isFound 14 = .ok (.ireturn, 1) := by decide +kernel
abbrev W_X5_isFound (cyI cyJ cyO : ClassId) (h_o a_o_howFar a_o_tones a_o_only a_o_fars a_o_cellAt a_o_ends a_o_seen a_o_begun : Nat) (o_last : Int32) (o_turnsLet : Int32) (o_slowsLet : Int32) (o_fuel : Int32) (o_glide : Int32) (o_count : Int32) (o_weightSum : Int64) (o_toPass : Int32) (o_foundNumber : Int32) (o_foundWeight : Int32) (o_foundTurns : Int32) (o_foundSlowed : Int32) : va_W := [(h_o, .inr (5, [.ref a_o_howFar, .ref a_o_tones, .ref a_o_only, .ref a_o_fars, .int o_last, .int o_turnsLet, .int o_slowsLet, .int o_fuel, .int o_glide, .ref a_o_cellAt, .ref a_o_ends, .ref a_o_seen, .ref a_o_begun, .int o_count, .long o_weightSum, .int o_toPass, .int o_foundNumber, .int o_foundWeight, .int o_foundTurns, .int o_foundSlowed]))]
def f_X5_isFound (o_toPass : Int32) : Option (Int32) :=
  if o_toPass = (-2) then
    some 1
  else
    some 0
abbrev rm_X5_isFound : Room := { frames := 0, cells := 0, slots := 0, locals := 0 }
set_option maxRecDepth 100000 in
set_option maxHeartbeats 4000000 in
theorem c_X5_isFound (l : Launch) (dC : Nat → ClassId) (dI : Nat → Nat → Nat) (cyI cyJ cyO : ClassId) (sz : Nat) (h_o a_o_howFar a_o_tones a_o_only a_o_fars a_o_cellAt a_o_ends a_o_seen a_o_begun : Nat) (o_last : Int32) (o_turnsLet : Int32) (o_slowsLet : Int32) (o_fuel : Int32) (o_glide : Int32) (o_count : Int32) (o_weightSum : Int64) (o_toPass : Int32) (o_foundNumber : Int32) (o_foundWeight : Int32) (o_foundTurns : Int32) (o_foundSlowed : Int32) (post : Int32 → Prop) (hf : okP (f_X5_isFound o_toPass) post) : Ci l (dC, dI) (tyL cyI cyJ cyO) yX5_isFound wsX5_isFound rm_X5_isFound [.ref h_o] sz (W_X5_isFound cyI cyJ cyO h_o a_o_howFar a_o_tones a_o_only a_o_fars a_o_cellAt a_o_ends a_o_seen a_o_begun o_last o_turnsLet o_slowsLet o_fuel o_glide o_count o_weightSum o_toPass o_foundNumber o_foundWeight o_foundTurns o_foundSlowed) zN (fun r (_ : Unit) => post r) (fun _ => (W_X5_isFound cyI cyJ cyO h_o a_o_howFar a_o_tones a_o_only a_o_fars a_o_cellAt a_o_ends a_o_seen a_o_begun o_last o_turnsLet o_slowsLet o_fuel o_glide o_count o_weightSum o_toPass o_foundNumber o_foundWeight o_foundTurns o_foundSlowed)) := by
  refine Met.ofW (cc := cX5_isFound) (maxL := 1) (ret := (some .boolean)) (by decide) rfl ?_
  intro p e s m args below meth c s₁ B hml hv
  obtain ⟨rfl, hsz, hP, hK, hD0, hZ⟩ := hv
  have hx := B.exec
  have hb := B.bytes
  have hr := B.returns
  have hts := atoms_spec (ws := wsX5_isFound) B.pre
  have hown : s.vm.findClass RX5 = some m.cls := findClass_of_methodNamed B.named
  have hlocks := B.notSynchronized
  subst hsz
  have hD := hD0.self (sz := s.heap.size)
  generalize hAe : va_A (W_X5_isFound cyI cyJ cyO h_o a_o_howFar a_o_tones a_o_only a_o_fars a_o_cellAt a_o_ends a_o_seen a_o_begun o_last o_turnsLet o_slowsLet o_fuel o_glide o_count o_weightSum o_toPass o_foundNumber o_foundWeight o_foundTurns o_foundSlowed) s.heap.size = A at hD hZ ⊢
  have hA : ∀ q : Nat, s.heap.size ≤ q → A q := fun q h => by rw [← hAe]; exact Or.inr h
  clear hAe hD0
  have hS : va_S A s.heap s.heap [] := va_S.rf
  have hl := lv_entry ([.ref h_o]) (n := 1) (Nat.le_of_ble_eq_true rfl)
  rw [lg_entry_eq]
  generalize (lg_sl ([.ref h_o]) ++ List.replicate (1 - (lg_sl ([.ref h_o])).length) Slot.unset).toArray = ls at hl ⊢
  have hl : lv_has ls 1 [(0, .ref h_o)] := hl
  refine kW (fun Q hQ => ?_)
  have hq0 := hts _ (List.mem_cons_of_mem _ q_137)
  have hi5 : ∀ w ∈ u_ws RX5 TX5 20, w ∈ wsX5_isFound := fun w h => List.mem_cons_of_mem _ (inX5 w h)
  have hw := hf
  unfold f_X5_isFound at hw
  have hP : va_P (dC, dI) vwCl (W_X5_isFound cyI cyJ cyO h_o a_o_howFar a_o_tones a_o_only a_o_fars a_o_cellAt a_o_ends a_o_seen a_o_begun o_last o_turnsLet o_slowsLet o_fuel o_glide o_count o_weightSum o_toPass o_foundNumber o_foundWeight o_foundTurns o_foundSlowed) s.heap := hP
  obtain ⟨H, hH⟩ : ∃ H, H = s.heap := ⟨_, rfl⟩
  obtain ⟨locs, hlo⟩ : ∃ x : List Loc, x = [] := ⟨_, rfl⟩
  have hP : va_P (dC, dI) vwCl (W_X5_isFound cyI cyJ cyO h_o a_o_howFar a_o_tones a_o_only a_o_fars a_o_cellAt a_o_ends a_o_seen a_o_begun o_last o_turnsLet o_slowsLet o_fuel o_glide o_count o_weightSum o_toPass o_foundNumber o_foundWeight o_foundTurns o_foundSlowed) H := by rw [hH]; exact hP
  have hS : va_S A s.heap H locs := by rw [hH, hlo]; exact hS
  refine kH hH hlo ?_
  clear hH hlo
  refine lv_aload_n hx hb dX5_isFound_0 rfl (lv_at hl 0 rfl) ?_
  refine va_get (D := (dC, dI)) (ci := 5) (v := .int o_toPass) (C := RX5) (T := TX5) (N := 20) hx hb hts hi5 hown hK hP 0 rfl rfl 15 (by decide) hq0 (fun _ h9 => h9) rfl dX5_isFound_1 ?_
  refine lv_bipush (v := (-2)) hx hb dX5_isFound_4 (by decide) ?_
  refine lv_icmp_ne (tgt := 13) hx hb dX5_isFound_6 (by decide) (fun c_1 => ?_) (fun c_1 => ?_)
  · replace hw := okF hw c_1
    clear c_1
    refine lv_iconst (v := 0) hx hb dX5_isFound_13 (by decide) ?_
    rw [hQ]
    exact W.zret (v := 0) hx hb hr (by decide) (fun t ht hW => ⟨⟨0, (), rfl, okS hw, by rw [ht]; exact hP, va_K.moved hW.alike hK, hD⟩, hS.F ht⟩) hS.2.2 dX5_isFound_14
  · replace hw := okT hw c_1
    clear c_1
    refine lv_iconst (v := 1) hx hb dX5_isFound_9 (by decide) ?_
    refine lv_goto (tgt := 14) hx hb dX5_isFound_10 (by decide) ?_
    rw [hQ]
    exact W.zret (v := 1) hx hb hr (by decide) (fun t ht hW => ⟨⟨1, (), rfl, okS hw, by rw [ht]; exact hP, va_K.moved hW.alike hK, hD⟩, hS.F ht⟩) hS.2.2 dX5_isFound_14
/-! ===== X5_ringGives ===== -/
theorem dX5_ringGives_0 : decode cX5_ringGives 0 = .ok (.aload_n 0, 1) := by decide +kernel
theorem dX5_ringGives_1 : decode cX5_ringGives 1 = .ok (.getfield 15, 3) := by decide +kernel
theorem dX5_ringGives_4 : decode cX5_ringGives 4 = .ok (.iload_n 1, 1) := by decide +kernel
theorem dX5_ringGives_5 : decode cX5_ringGives 5 = .ok (.iaload, 1) := by decide +kernel
theorem dX5_ringGives_6 : decode cX5_ringGives 6 = .ok (.istore 4, 2) := by decide +kernel
theorem dX5_ringGives_8 : decode cX5_ringGives 8 = .ok (.iload 4, 2) := by decide +kernel
theorem dX5_ringGives_10 : decode cX5_ringGives 10 = .ok (.iconst 1, 1) := by decide +kernel
theorem dX5_ringGives_11 : decode cX5_ringGives 11 = .ok (.if_icmp .ne 8, 3) := by decide +kernel
theorem dX5_ringGives_14 : decode cX5_ringGives 14 = .ok (.iload_n 3, 1) := by decide +kernel
theorem dX5_ringGives_15 : decode cX5_ringGives 15 = .ok (.iload_n 2, 1) := by decide +kernel
theorem dX5_ringGives_16 : decode cX5_ringGives 16 = .ok (.if_icmp .ge 14, 3) := by decide +kernel
theorem dX5_ringGives_19 : decode cX5_ringGives 19 = .ok (.iload 4, 2) := by decide +kernel
theorem dX5_ringGives_21 : decode cX5_ringGives 21 = .ok (.iconst 2, 1) := by decide +kernel
theorem dX5_ringGives_22 : decode cX5_ringGives 22 = .ok (.if_icmp .ne 10, 3) := by decide +kernel
theorem dX5_ringGives_25 : decode cX5_ringGives 25 = .ok (.iload_n 3, 1) := by decide +kernel
theorem dX5_ringGives_26 : decode cX5_ringGives 26 = .ok (.iload_n 2, 1) := by decide +kernel
theorem dX5_ringGives_27 : decode cX5_ringGives 27 = .ok (.if_icmp .gt 5, 3) := by decide +kernel
theorem dX5_ringGives_30 : decode cX5_ringGives 30 = .ok (.iconst 0, 1) := by decide +kernel
theorem dX5_ringGives_31 : decode cX5_ringGives 31 = .ok (.ireturn, 1) := by decide +kernel
theorem dX5_ringGives_32 : decode cX5_ringGives 32 = .ok (.aload_n 0, 1) := by decide +kernel
theorem dX5_ringGives_33 : decode cX5_ringGives 33 = .ok (.getfield 9, 3) := by decide +kernel
theorem dX5_ringGives_36 : decode cX5_ringGives 36 = .ok (.iload_n 1, 1) := by decide +kernel
theorem dX5_ringGives_37 : decode cX5_ringGives 37 = .ok (.iaload, 1) := by decide +kernel
theorem dX5_ringGives_38 : decode cX5_ringGives 38 = .ok (.iconst (-1), 1) := by decide +kernel
theorem dX5_ringGives_39 : decode cX5_ringGives 39 = .ok (.if_icmp .ne 5, 3) := by decide +kernel
theorem dX5_ringGives_42 : decode cX5_ringGives 42 = .ok (.iconst 1, 1) := by decide +kernel
theorem dX5_ringGives_43 : decode cX5_ringGives 43 = .ok (.ireturn, 1) := by decide +kernel
theorem dX5_ringGives_44 : decode cX5_ringGives 44 = .ok (.iload_n 3, 1) := by decide +kernel
theorem dX5_ringGives_45 : decode cX5_ringGives 45 = .ok (.aload_n 0, 1) := by decide +kernel
theorem dX5_ringGives_46 : decode cX5_ringGives 46 = .ok (.getfield 9, 3) := by decide +kernel
theorem dX5_ringGives_49 : decode cX5_ringGives 49 = .ok (.iload_n 1, 1) := by decide +kernel
theorem dX5_ringGives_50 : decode cX5_ringGives 50 = .ok (.iaload, 1) := by decide +kernel
theorem dX5_ringGives_51 : decode cX5_ringGives 51 = .ok (.isub, 1) := by decide +kernel
theorem dX5_ringGives_52 : decode cX5_ringGives 52 = .ok (.invokestatic 133, 3) := by decide +kernel
theorem dX5_ringGives_55 : decode cX5_ringGives 55 = .ok (.istore 5, 2) := by decide +kernel
theorem dX5_ringGives_57 : decode cX5_ringGives 57 = .ok (.iload 5, 2) := by decide +kernel
theorem dX5_ringGives_59 : decode cX5_ringGives 59 = .ok (.ifCond .ne 7, 3) := by decide +kernel
theorem dX5_ringGives_62 : decode cX5_ringGives 62 = .ok (.iconst 2, 1) := by decide +kernel
theorem dX5_ringGives_63 : decode cX5_ringGives 63 = .ok (.goto 14, 3) := by decide +kernel
theorem dX5_ringGives_66 : decode cX5_ringGives 66 = .ok (.iload 5, 2) := by decide +kernel
theorem dX5_ringGives_68 : decode cX5_ringGives 68 = .ok (.iconst 1, 1) := by decide +kernel
theorem dX5_ringGives_69 : decode cX5_ringGives 69 = .ok (.if_icmp .ne 7, 3) := by decide +kernel
theorem dX5_ringGives_72 : decode cX5_ringGives 72 = .ok (.iconst 1, 1) := by decide +kernel
theorem dX5_ringGives_73 : decode cX5_ringGives 73 = .ok (.goto 4, 3) := by decide +kernel
theorem dX5_ringGives_76 : decode cX5_ringGives 76 = .ok (.iconst 0, 1) := by decide +kernel
theorem dX5_ringGives_77 : decode cX5_ringGives 77 = .ok (.ireturn, 1) := by decide +kernel
abbrev W_X5_ringGives (cyI cyJ cyO : ClassId) (h_o a_o_howFar a_o_tones a_o_only a_o_fars a_o_cellAt a_o_ends a_o_seen a_o_begun : Nat) (o_last : Int32) (o_turnsLet : Int32) (o_slowsLet : Int32) (o_fuel : Int32) (o_glide : Int32) (o_count : Int32) (o_weightSum : Int64) (o_toPass : Int32) (o_foundNumber : Int32) (o_foundWeight : Int32) (o_foundTurns : Int32) (o_foundSlowed : Int32) (o_howFar : Nat → Int32) (o_tones : Nat → Int32) : va_W := [(h_o, .inr (5, [.ref a_o_howFar, .ref a_o_tones, .ref a_o_only, .ref a_o_fars, .int o_last, .int o_turnsLet, .int o_slowsLet, .int o_fuel, .int o_glide, .ref a_o_cellAt, .ref a_o_ends, .ref a_o_seen, .ref a_o_begun, .int o_count, .long o_weightSum, .int o_toPass, .int o_foundNumber, .int o_foundWeight, .int o_foundTurns, .int o_foundSlowed])), (a_o_howFar, .inl (cyI, 7, .inl o_howFar)), (a_o_tones, .inl (cyI, 7, .inl o_tones))]
def f_X5_ringGives_B32 (v1 : Int32) (v3 : Int32) (o_howFar : Nat → Int32) (o_tones : Nat → Int32) : Option (Int32) :=
  chk (¬ (v1 < 0 ∨ 7 ≤ v1.toNatClampNeg)) <|
  if (o_howFar v1.toNatClampNeg) = (-1) then
    some 1
  else
    chk (¬ (v1 < 0 ∨ 7 ≤ v1.toNatClampNeg)) <|
    nm (if 0 ≤ (v3 - (o_howFar v1.toNatClampNeg)) then (v3 - (o_howFar v1.toNatClampNeg)) else 0 - (v3 - (o_howFar v1.toNatClampNeg))) fun x_1 =>
    if x_1 = 0 then
      some 2
    else
      if x_1 = 1 then
        some 1
      else
        some 0
def f_X5_ringGives_B19 (v1 : Int32) (v2 : Int32) (v3 : Int32) (v4 : Int32) (o_howFar : Nat → Int32) (o_tones : Nat → Int32) : Option (Int32) :=
  if v4 = 2 then
    if v2 < v3 then
      f_X5_ringGives_B32 v1 v3 o_howFar o_tones
    else
      some 0
  else
    f_X5_ringGives_B32 v1 v3 o_howFar o_tones
def f_X5_ringGives (x1 : Int32) (x2 : Int32) (x3 : Int32) (o_howFar : Nat → Int32) (o_tones : Nat → Int32) : Option (Int32) :=
  chk (¬ (x1 < 0 ∨ 7 ≤ x1.toNatClampNeg)) <|
  nm (o_tones x1.toNatClampNeg) fun x_2 =>
  if x_2 = 1 then
    if x2 ≤ x3 then
      some 0
    else
      f_X5_ringGives_B19 x1 x2 x3 x_2 o_howFar o_tones
  else
    f_X5_ringGives_B19 x1 x2 x3 x_2 o_howFar o_tones
abbrev rm_X5_ringGives : Room := { frames := 1, cells := 0, slots := 0, locals := 21 }
set_option maxRecDepth 100000 in
set_option maxHeartbeats 4000000 in
theorem c_X5_ringGives (l : Launch) (dC : Nat → ClassId) (dI : Nat → Nat → Nat) (cyI cyJ cyO : ClassId) (sz : Nat) (h_o a_o_howFar a_o_tones a_o_only a_o_fars a_o_cellAt a_o_ends a_o_seen a_o_begun : Nat) (o_last : Int32) (o_turnsLet : Int32) (o_slowsLet : Int32) (o_fuel : Int32) (o_glide : Int32) (o_count : Int32) (o_weightSum : Int64) (o_toPass : Int32) (o_foundNumber : Int32) (o_foundWeight : Int32) (o_foundTurns : Int32) (o_foundSlowed : Int32) (o_howFar : Nat → Int32) (o_tones : Nat → Int32) (x1 : Int32) (x2 : Int32) (x3 : Int32) (post : Int32 → Prop) (hf : okP (f_X5_ringGives x1 x2 x3 o_howFar o_tones) post) : Ci l (dC, dI) (tyL cyI cyJ cyO) yX5_ringGives wsX5_ringGives rm_X5_ringGives [.ref h_o, .int x1, .int x2, .int x3] sz (W_X5_ringGives cyI cyJ cyO h_o a_o_howFar a_o_tones a_o_only a_o_fars a_o_cellAt a_o_ends a_o_seen a_o_begun o_last o_turnsLet o_slowsLet o_fuel o_glide o_count o_weightSum o_toPass o_foundNumber o_foundWeight o_foundTurns o_foundSlowed o_howFar o_tones) zN (fun r (_ : Unit) => post r) (fun _ => (W_X5_ringGives cyI cyJ cyO h_o a_o_howFar a_o_tones a_o_only a_o_fars a_o_cellAt a_o_ends a_o_seen a_o_begun o_last o_turnsLet o_slowsLet o_fuel o_glide o_count o_weightSum o_toPass o_foundNumber o_foundWeight o_foundTurns o_foundSlowed o_howFar o_tones)) := by
  refine Met.ofW (cc := cX5_ringGives) (maxL := 6) (ret := (some .int)) (by decide) rfl ?_
  intro p e s m args below meth c s₁ B hml hv
  obtain ⟨rfl, hsz, hP, hK, hD0, hZ⟩ := hv
  have hx := B.exec
  have hb := B.bytes
  have hr := B.returns
  have hts := atoms_spec (ws := wsX5_ringGives) B.pre
  have hown : s.vm.findClass RX5 = some m.cls := findClass_of_methodNamed B.named
  have hlocks := B.notSynchronized
  subst hsz
  have hD := hD0.self (sz := s.heap.size)
  generalize hAe : va_A (W_X5_ringGives cyI cyJ cyO h_o a_o_howFar a_o_tones a_o_only a_o_fars a_o_cellAt a_o_ends a_o_seen a_o_begun o_last o_turnsLet o_slowsLet o_fuel o_glide o_count o_weightSum o_toPass o_foundNumber o_foundWeight o_foundTurns o_foundSlowed o_howFar o_tones) s.heap.size = A at hD hZ ⊢
  have hA : ∀ q : Nat, s.heap.size ≤ q → A q := fun q h => by rw [← hAe]; exact Or.inr h
  clear hAe hD0
  have hS : va_S A s.heap s.heap [] := va_S.rf
  have hl := lv_entry ([.ref h_o, .int x1, .int x2, .int x3]) (n := 6) (Nat.le_of_ble_eq_true rfl)
  rw [lg_entry_eq]
  generalize (lg_sl ([.ref h_o, .int x1, .int x2, .int x3]) ++ List.replicate (6 - (lg_sl ([.ref h_o, .int x1, .int x2, .int x3])).length) Slot.unset).toArray = ls at hl ⊢
  have hl : lv_has ls 6 [(0, .ref h_o), (1, .int x1), (2, .int x2), (3, .int x3)] := hl
  refine kW (fun Q hQ => ?_)
  have hq0 := hts _ (List.mem_cons_of_mem _ q_117)
  have hi5 : ∀ w ∈ u_ws RX5 TX5 20, w ∈ wsX5_ringGives := fun w h => List.mem_cons_of_mem _ (inX5 w h)
  have hq2 := hts _ (List.mem_cons_of_mem _ q_432)
  have hq3 := hts _ (List.mem_cons_of_mem _ q_433)
  have hq4 := hts _ (List.mem_cons_of_mem _ q_9)
  have hq5 := hts _ (List.mem_cons_of_mem _ q_434)
  have hq6 := hts _ (List.mem_cons_of_mem _ q_118)
  have hw := hf
  have w32 : ∀ (v1 : Int32) (v3 : Int32) (H : Heap) (locs : List Loc), va_P (dC, dI) vwCl (W_X5_ringGives cyI cyJ cyO h_o a_o_howFar a_o_tones a_o_only a_o_fars a_o_cellAt a_o_ends a_o_seen a_o_begun o_last o_turnsLet o_slowsLet o_fuel o_glide o_count o_weightSum o_toPass o_foundNumber o_foundWeight o_foundTurns o_foundSlowed o_howFar o_tones) H → va_D A (W_X5_ringGives cyI cyJ cyO h_o a_o_howFar a_o_tones a_o_only a_o_fars a_o_cellAt a_o_ends a_o_seen a_o_begun o_last o_turnsLet o_slowsLet o_fuel o_glide o_count o_weightSum o_toPass o_foundNumber o_foundWeight o_foundTurns o_foundSlowed o_howFar o_tones) → va_S A s.heap H locs → ∀ (ls : Array Slot), lv_has ls 6 [(0, .ref h_o), (1, .int v1), (3, .int v3)] → okP (f_X5_ringGives_B32 v1 v3 o_howFar o_tones) post → W p l e (headSpec wsX5_ringGives rm_X5_ringGives).room s m ([.ref h_o, .int x1, .int x2, .int x3] : List Value).toArray below meth c H locs 0 0 Q (F0 m 32 ls []) := by
    intro v1 v3 H locs hP hD hS ls hl hw
    unfold f_X5_ringGives_B32 at hw
    refine lv_aload_n hx hb dX5_ringGives_32 rfl (lv_at hl 0 rfl) ?_
    refine va_get (D := (dC, dI)) (ci := 5) (v := .ref a_o_howFar) (C := RX5) (T := TX5) (N := 20) hx hb hts hi5 hown hK hP 0 rfl rfl 0 (by decide) hq0 (fun _ h9 => h9) rfl dX5_ringGives_33 ?_
    refine lv_iload_n hx hb dX5_ringGives_36 rfl (lv_at hl 1 rfl) ?_
    obtain ⟨h_1, hw⟩ := okC hw
    refine va_iald (i := v1) hx hb hK hP 1 0 rfl rfl h_1 dX5_ringGives_37 ?_
    refine lv_iconst (v := (-1)) hx hb dX5_ringGives_38 (by decide) ?_
    refine lv_icmp_ne (tgt := 44) hx hb dX5_ringGives_39 (by decide) (fun c_2 => ?_) (fun c_2 => ?_)
    · replace hw := okF hw c_2
      clear c_2
      refine lv_iload_n hx hb dX5_ringGives_44 rfl (lv_at hl 2 rfl) ?_
      refine lv_aload_n hx hb dX5_ringGives_45 rfl (lv_at hl 0 rfl) ?_
      refine va_get (D := (dC, dI)) (ci := 5) (v := .ref a_o_howFar) (C := RX5) (T := TX5) (N := 20) hx hb hts hi5 hown hK hP 0 rfl rfl 0 (by decide) hq0 (fun _ h9 => h9) rfl dX5_ringGives_46 ?_
      refine lv_iload_n hx hb dX5_ringGives_49 rfl (lv_at hl 1 rfl) ?_
      obtain ⟨h_3, hw⟩ := okC hw
      refine va_iald (i := v1) hx hb hK hP 1 0 rfl rfl h_3 dX5_ringGives_50 ?_
      refine lv_isub hx hb dX5_ringGives_51 ?_
      refine va_mabs hx hb (hml.trans hl.1.symm) hown hq2 hq3 hq4 hq5 (Nat.le_of_ble_eq_true rfl) (Nat.le_of_ble_eq_true rfl) (Nat.le_of_ble_eq_true rfl) (Nat.le_of_ble_eq_true rfl) dX5_ringGives_52 ?_
      refine lv_topi (fun x_4 ex_4 => ?_)
      replace hw := okN ex_4 hw
      clear ex_4
      refine lv_istore (lv' := [(5, .int x_4), (0, .ref h_o), (1, .int v1), (3, .int v3)]) hx hb dX5_ringGives_55 hl (by decide) rfl (fun ls hl => ?_)
      refine lv_iload hx hb dX5_ringGives_57 (lv_at hl 0 rfl) ?_
      refine lv_if_ne (tgt := 66) hx hb dX5_ringGives_59 (by decide) (fun c_5 => ?_) (fun c_5 => ?_)
      · replace hw := okF hw c_5
        clear c_5
        refine lv_iload hx hb dX5_ringGives_66 (lv_at hl 0 rfl) ?_
        refine lv_iconst (v := 1) hx hb dX5_ringGives_68 (by decide) ?_
        refine lv_icmp_ne (tgt := 76) hx hb dX5_ringGives_69 (by decide) (fun c_6 => ?_) (fun c_6 => ?_)
        · replace hw := okF hw c_6
          clear c_6
          refine lv_iconst (v := 0) hx hb dX5_ringGives_76 (by decide) ?_
          rw [hQ]
          exact W.iret (v := 0) hx hb hr (fun t ht hW => ⟨⟨0, (), rfl, okS hw, by rw [ht]; exact hP, va_K.moved hW.alike hK, hD⟩, hS.F ht⟩) hS.2.2 dX5_ringGives_77
        · replace hw := okT hw c_6
          clear c_6
          refine lv_iconst (v := 1) hx hb dX5_ringGives_72 (by decide) ?_
          refine lv_goto (tgt := 77) hx hb dX5_ringGives_73 (by decide) ?_
          rw [hQ]
          exact W.iret (v := 1) hx hb hr (fun t ht hW => ⟨⟨1, (), rfl, okS hw, by rw [ht]; exact hP, va_K.moved hW.alike hK, hD⟩, hS.F ht⟩) hS.2.2 dX5_ringGives_77
      · replace hw := okT hw c_5
        clear c_5
        refine lv_iconst (v := 2) hx hb dX5_ringGives_62 (by decide) ?_
        refine lv_goto (tgt := 77) hx hb dX5_ringGives_63 (by decide) ?_
        rw [hQ]
        exact W.iret (v := 2) hx hb hr (fun t ht hW => ⟨⟨2, (), rfl, okS hw, by rw [ht]; exact hP, va_K.moved hW.alike hK, hD⟩, hS.F ht⟩) hS.2.2 dX5_ringGives_77
    · replace hw := okT hw c_2
      clear c_2
      refine lv_iconst (v := 1) hx hb dX5_ringGives_42 (by decide) ?_
      rw [hQ]
      exact W.iret (v := 1) hx hb hr (fun t ht hW => ⟨⟨1, (), rfl, okS hw, by rw [ht]; exact hP, va_K.moved hW.alike hK, hD⟩, hS.F ht⟩) hS.2.2 dX5_ringGives_43
  have w19 : ∀ (v1 : Int32) (v2 : Int32) (v3 : Int32) (v4 : Int32) (H : Heap) (locs : List Loc), va_P (dC, dI) vwCl (W_X5_ringGives cyI cyJ cyO h_o a_o_howFar a_o_tones a_o_only a_o_fars a_o_cellAt a_o_ends a_o_seen a_o_begun o_last o_turnsLet o_slowsLet o_fuel o_glide o_count o_weightSum o_toPass o_foundNumber o_foundWeight o_foundTurns o_foundSlowed o_howFar o_tones) H → va_D A (W_X5_ringGives cyI cyJ cyO h_o a_o_howFar a_o_tones a_o_only a_o_fars a_o_cellAt a_o_ends a_o_seen a_o_begun o_last o_turnsLet o_slowsLet o_fuel o_glide o_count o_weightSum o_toPass o_foundNumber o_foundWeight o_foundTurns o_foundSlowed o_howFar o_tones) → va_S A s.heap H locs → ∀ (ls : Array Slot), lv_has ls 6 [(0, .ref h_o), (1, .int v1), (2, .int v2), (3, .int v3), (4, .int v4)] → okP (f_X5_ringGives_B19 v1 v2 v3 v4 o_howFar o_tones) post → W p l e (headSpec wsX5_ringGives rm_X5_ringGives).room s m ([.ref h_o, .int x1, .int x2, .int x3] : List Value).toArray below meth c H locs 0 0 Q (F0 m 19 ls []) := by
    intro v1 v2 v3 v4 H locs hP hD hS ls hl hw
    unfold f_X5_ringGives_B19 at hw
    refine lv_iload hx hb dX5_ringGives_19 (lv_at hl 4 rfl) ?_
    refine lv_iconst (v := 2) hx hb dX5_ringGives_21 (by decide) ?_
    refine lv_icmp_ne (tgt := 32) hx hb dX5_ringGives_22 (by decide) (fun c_7 => ?_) (fun c_7 => ?_)
    · replace hw := okF hw c_7
      clear c_7
      exact w32 v1 v3 _ _ hP hD hS _ (lv_sub hl [0, 1, 3] rfl) hw
    · replace hw := okT hw c_7
      clear c_7
      refine lv_iload_n hx hb dX5_ringGives_25 rfl (lv_at hl 3 rfl) ?_
      refine lv_iload_n hx hb dX5_ringGives_26 rfl (lv_at hl 2 rfl) ?_
      refine lv_icmp_gt (tgt := 32) hx hb dX5_ringGives_27 (by decide) (fun c_8 => ?_) (fun c_8 => ?_)
      · replace hw := okT hw c_8
        clear c_8
        exact w32 v1 v3 _ _ hP hD hS _ (lv_sub hl [0, 1, 3] rfl) hw
      · replace hw := okF hw c_8
        clear c_8
        refine lv_iconst (v := 0) hx hb dX5_ringGives_30 (by decide) ?_
        rw [hQ]
        exact W.iret (v := 0) hx hb hr (fun t ht hW => ⟨⟨0, (), rfl, okS hw, by rw [ht]; exact hP, va_K.moved hW.alike hK, hD⟩, hS.F ht⟩) hS.2.2 dX5_ringGives_31
  unfold f_X5_ringGives at hw
  have hP : va_P (dC, dI) vwCl (W_X5_ringGives cyI cyJ cyO h_o a_o_howFar a_o_tones a_o_only a_o_fars a_o_cellAt a_o_ends a_o_seen a_o_begun o_last o_turnsLet o_slowsLet o_fuel o_glide o_count o_weightSum o_toPass o_foundNumber o_foundWeight o_foundTurns o_foundSlowed o_howFar o_tones) s.heap := hP
  obtain ⟨H, hH⟩ : ∃ H, H = s.heap := ⟨_, rfl⟩
  obtain ⟨locs, hlo⟩ : ∃ x : List Loc, x = [] := ⟨_, rfl⟩
  have hP : va_P (dC, dI) vwCl (W_X5_ringGives cyI cyJ cyO h_o a_o_howFar a_o_tones a_o_only a_o_fars a_o_cellAt a_o_ends a_o_seen a_o_begun o_last o_turnsLet o_slowsLet o_fuel o_glide o_count o_weightSum o_toPass o_foundNumber o_foundWeight o_foundTurns o_foundSlowed o_howFar o_tones) H := by rw [hH]; exact hP
  have hS : va_S A s.heap H locs := by rw [hH, hlo]; exact hS
  refine kH hH hlo ?_
  clear hH hlo
  refine lv_aload_n hx hb dX5_ringGives_0 rfl (lv_at hl 0 rfl) ?_
  refine va_get (D := (dC, dI)) (ci := 5) (v := .ref a_o_tones) (C := RX5) (T := TX5) (N := 20) hx hb hts hi5 hown hK hP 0 rfl rfl 1 (by decide) hq6 (fun _ h9 => h9) rfl dX5_ringGives_1 ?_
  refine lv_iload_n hx hb dX5_ringGives_4 rfl (lv_at hl 1 rfl) ?_
  obtain ⟨h_9, hw⟩ := okC hw
  refine va_iald (i := x1) hx hb hK hP 2 0 rfl rfl h_9 dX5_ringGives_5 ?_
  refine lv_topi (fun x_10 ex_10 => ?_)
  replace hw := okN ex_10 hw
  clear ex_10
  refine lv_istore (lv' := [(4, .int x_10), (0, .ref h_o), (1, .int x1), (2, .int x2), (3, .int x3)]) hx hb dX5_ringGives_6 hl (by decide) rfl (fun ls hl => ?_)
  refine lv_iload hx hb dX5_ringGives_8 (lv_at hl 0 rfl) ?_
  refine lv_iconst (v := 1) hx hb dX5_ringGives_10 (by decide) ?_
  refine lv_icmp_ne (tgt := 19) hx hb dX5_ringGives_11 (by decide) (fun c_11 => ?_) (fun c_11 => ?_)
  · replace hw := okF hw c_11
    clear c_11
    exact w19 x1 x2 x3 x_10 _ _ hP hD hS _ (lv_sub hl [1, 2, 3, 4, 0] rfl) hw
  · replace hw := okT hw c_11
    clear c_11
    refine lv_iload_n hx hb dX5_ringGives_14 rfl (lv_at hl 4 rfl) ?_
    refine lv_iload_n hx hb dX5_ringGives_15 rfl (lv_at hl 3 rfl) ?_
    refine lv_icmp_ge (tgt := 30) hx hb dX5_ringGives_16 (by decide) (fun c_12 => ?_) (fun c_12 => ?_)
    · replace hw := okT hw c_12
      clear c_12
      refine lv_iconst (v := 0) hx hb dX5_ringGives_30 (by decide) ?_
      rw [hQ]
      exact W.iret (v := 0) hx hb hr (fun t ht hW => ⟨⟨0, (), rfl, okS hw, by rw [ht]; exact hP, va_K.moved hW.alike hK, hD⟩, hS.F ht⟩) hS.2.2 dX5_ringGives_31
    · replace hw := okF hw c_12
      clear c_12
      exact w19 x1 x2 x3 x_10 _ _ hP hD hS _ (lv_sub hl [1, 2, 3, 4, 0] rfl) hw
/-! ===== X5_see ===== -/
theorem dX5_see_0 : decode cX5_see 0 = .ok (.aload_n 0, 1) := by decide +kernel
theorem dX5_see_1 : decode cX5_see 1 = .ok (.getfield 48, 3) := by decide +kernel
theorem dX5_see_4 : decode cX5_see 4 = .ok (.bipush 10, 2) := by decide +kernel
theorem dX5_see_6 : decode cX5_see 6 = .ok (.iload_n 1, 1) := by decide +kernel
theorem dX5_see_7 : decode cX5_see 7 = .ok (.imul, 1) := by decide +kernel
theorem dX5_see_8 : decode cX5_see 8 = .ok (.iload_n 2, 1) := by decide +kernel
theorem dX5_see_9 : decode cX5_see 9 = .ok (.bipush 10, 2) := by decide +kernel
theorem dX5_see_11 : decode cX5_see 11 = .ok (.idiv, 1) := by decide +kernel
theorem dX5_see_12 : decode cX5_see 12 = .ok (.iadd, 1) := by decide +kernel
theorem dX5_see_13 : decode cX5_see 13 = .ok (.dup2, 1) := by decide +kernel
theorem dX5_see_14 : decode cX5_see 14 = .ok (.iaload, 1) := by decide +kernel
theorem dX5_see_15 : decode cX5_see 15 = .ok (.iconst 1, 1) := by decide +kernel
theorem dX5_see_16 : decode cX5_see 16 = .ok (.iload_n 2, 1) := by decide +kernel
theorem dX5_see_17 : decode cX5_see 17 = .ok (.bipush 10, 2) := by decide +kernel
theorem dX5_see_19 : decode cX5_see 19 = .ok (.irem, 1) := by decide +kernel
theorem dX5_see_20 : decode cX5_see 20 = .ok (.ishl, 1) := by decide +kernel
theorem dX5_see_21 : decode cX5_see 21 = .ok (.ior, 1) := by decide +kernel
theorem dX5_see_22 : decode cX5_see 22 = .ok (.iastore, 1) := by decide +kernel
theorem dX5_see_23 : decode cX5_see 23 = .ok (.return_, 1) := by decide +kernel
abbrev W_X5_see (cyI cyJ cyO : ClassId) (h_o a_o_howFar a_o_tones a_o_only a_o_fars a_o_cellAt a_o_ends a_o_seen a_o_begun : Nat) (o_last : Int32) (o_turnsLet : Int32) (o_slowsLet : Int32) (o_fuel : Int32) (o_glide : Int32) (o_count : Int32) (o_weightSum : Int64) (o_toPass : Int32) (o_foundNumber : Int32) (o_foundWeight : Int32) (o_foundTurns : Int32) (o_foundSlowed : Int32) (o_seen : Nat → Int32) : va_W := [(h_o, .inr (5, [.ref a_o_howFar, .ref a_o_tones, .ref a_o_only, .ref a_o_fars, .int o_last, .int o_turnsLet, .int o_slowsLet, .int o_fuel, .int o_glide, .ref a_o_cellAt, .ref a_o_ends, .ref a_o_seen, .ref a_o_begun, .int o_count, .long o_weightSum, .int o_toPass, .int o_foundNumber, .int o_foundWeight, .int o_foundTurns, .int o_foundSlowed])), (a_o_seen, .inl (cyI, 70, .inl o_seen))]
def f_X5_see (x1 : Int32) (x2 : Int32) (o_seen : Nat → Int32) : Option ((Nat → Int32)) :=
  nm ((10 * x1) + (x2 / 10)) fun x_1 =>
  chk (¬ (x_1 < 0 ∨ 70 ≤ x_1.toNatClampNeg)) <|
  nm ((o_seen x_1.toNatClampNeg) ||| (1 <<< ((x2 - x2 / 10 * 10) &&& 31))) fun x_2 =>
  chk (¬ (x_1 < 0 ∨ 70 ≤ x_1.toNatClampNeg)) <|
  some (upd o_seen x_1.toNatClampNeg x_2)
abbrev rm_X5_see : Room := { frames := 0, cells := 0, slots := 0, locals := 0 }
set_option maxRecDepth 100000 in
set_option maxHeartbeats 4000000 in
theorem c_X5_see (l : Launch) (dC : Nat → ClassId) (dI : Nat → Nat → Nat) (cyI cyJ cyO : ClassId) (sz : Nat) (h_o a_o_howFar a_o_tones a_o_only a_o_fars a_o_cellAt a_o_ends a_o_seen a_o_begun : Nat) (o_last : Int32) (o_turnsLet : Int32) (o_slowsLet : Int32) (o_fuel : Int32) (o_glide : Int32) (o_count : Int32) (o_weightSum : Int64) (o_toPass : Int32) (o_foundNumber : Int32) (o_foundWeight : Int32) (o_foundTurns : Int32) (o_foundSlowed : Int32) (o_seen : Nat → Int32) (x1 : Int32) (x2 : Int32) (post : ((Nat → Int32)) → Prop) (hf : okP (f_X5_see x1 x2 o_seen) post) : Cv l (dC, dI) (tyL cyI cyJ cyO) yX5_see wsX5_see rm_X5_see [.ref h_o, .int x1, .int x2] sz (W_X5_see cyI cyJ cyO h_o a_o_howFar a_o_tones a_o_only a_o_fars a_o_cellAt a_o_ends a_o_seen a_o_begun o_last o_turnsLet o_slowsLet o_fuel o_glide o_count o_weightSum o_toPass o_foundNumber o_foundWeight o_foundTurns o_foundSlowed o_seen) zN (fun u => post u) (fun u => (W_X5_see cyI cyJ cyO h_o a_o_howFar a_o_tones a_o_only a_o_fars a_o_cellAt a_o_ends a_o_seen a_o_begun o_last o_turnsLet o_slowsLet o_fuel o_glide o_count o_weightSum o_toPass o_foundNumber o_foundWeight o_foundTurns o_foundSlowed u)) := by
  refine Met.ofW (cc := cX5_see) (maxL := 3) (ret := none) (by decide) rfl ?_
  intro p e s m args below meth c s₁ B hml hv
  obtain ⟨rfl, hsz, hP, hK, hD0, hZ⟩ := hv
  have hx := B.exec
  have hb := B.bytes
  have hr := B.returns
  have hts := atoms_spec (ws := wsX5_see) B.pre
  have hown : s.vm.findClass RX5 = some m.cls := findClass_of_methodNamed B.named
  have hlocks := B.notSynchronized
  subst hsz
  have hD := hD0.self (sz := s.heap.size)
  generalize hAe : va_A (W_X5_see cyI cyJ cyO h_o a_o_howFar a_o_tones a_o_only a_o_fars a_o_cellAt a_o_ends a_o_seen a_o_begun o_last o_turnsLet o_slowsLet o_fuel o_glide o_count o_weightSum o_toPass o_foundNumber o_foundWeight o_foundTurns o_foundSlowed o_seen) s.heap.size = A at hD hZ ⊢
  have hA : ∀ q : Nat, s.heap.size ≤ q → A q := fun q h => by rw [← hAe]; exact Or.inr h
  clear hAe hD0
  have hS : va_S A s.heap s.heap [] := va_S.rf
  have hl := lv_entry ([.ref h_o, .int x1, .int x2]) (n := 3) (Nat.le_of_ble_eq_true rfl)
  rw [lg_entry_eq]
  generalize (lg_sl ([.ref h_o, .int x1, .int x2]) ++ List.replicate (3 - (lg_sl ([.ref h_o, .int x1, .int x2])).length) Slot.unset).toArray = ls at hl ⊢
  have hl : lv_has ls 3 [(0, .ref h_o), (1, .int x1), (2, .int x2)] := hl
  refine kW (fun Q hQ => ?_)
  have hq0 := hts _ (List.mem_cons_of_mem _ q_130)
  have hi5 : ∀ w ∈ u_ws RX5 TX5 20, w ∈ wsX5_see := fun w h => List.mem_cons_of_mem _ (inX5 w h)
  have hw := hf
  unfold f_X5_see at hw
  have hP : va_P (dC, dI) vwCl (W_X5_see cyI cyJ cyO h_o a_o_howFar a_o_tones a_o_only a_o_fars a_o_cellAt a_o_ends a_o_seen a_o_begun o_last o_turnsLet o_slowsLet o_fuel o_glide o_count o_weightSum o_toPass o_foundNumber o_foundWeight o_foundTurns o_foundSlowed o_seen) s.heap := hP
  obtain ⟨H, hH⟩ : ∃ H, H = s.heap := ⟨_, rfl⟩
  obtain ⟨locs, hlo⟩ : ∃ x : List Loc, x = [] := ⟨_, rfl⟩
  have hP : va_P (dC, dI) vwCl (W_X5_see cyI cyJ cyO h_o a_o_howFar a_o_tones a_o_only a_o_fars a_o_cellAt a_o_ends a_o_seen a_o_begun o_last o_turnsLet o_slowsLet o_fuel o_glide o_count o_weightSum o_toPass o_foundNumber o_foundWeight o_foundTurns o_foundSlowed o_seen) H := by rw [hH]; exact hP
  have hS : va_S A s.heap H locs := by rw [hH, hlo]; exact hS
  refine kH hH hlo ?_
  clear hH hlo
  refine lv_aload_n hx hb dX5_see_0 rfl (lv_at hl 0 rfl) ?_
  refine va_get (D := (dC, dI)) (ci := 5) (v := .ref a_o_seen) (C := RX5) (T := TX5) (N := 20) hx hb hts hi5 hown hK hP 0 rfl rfl 11 (by decide) hq0 (fun _ h9 => h9) rfl dX5_see_1 ?_
  refine lv_bipush (v := 10) hx hb dX5_see_4 (by decide) ?_
  refine lv_iload_n hx hb dX5_see_6 rfl (lv_at hl 1 rfl) ?_
  refine lv_imul hx hb dX5_see_7 ?_
  refine lv_iload_n hx hb dX5_see_8 rfl (lv_at hl 2 rfl) ?_
  refine lv_bipush (v := 10) hx hb dX5_see_9 (by decide) ?_
  refine lv_idiv hx hb dX5_see_11 (by decide) ?_
  refine lv_iadd hx hb dX5_see_12 ?_
  refine lv_topi (fun x_1 ex_1 => ?_)
  replace hw := okN ex_1 hw
  clear ex_1
  refine lv_dup2_11 hx hb dX5_see_13 rfl rfl ?_
  obtain ⟨h_2, hw⟩ := okC hw
  refine va_iald (i := x_1) hx hb hK hP 1 0 rfl rfl h_2 dX5_see_14 ?_
  refine lv_iconst (v := 1) hx hb dX5_see_15 (by decide) ?_
  refine lv_iload_n hx hb dX5_see_16 rfl (lv_at hl 2 rfl) ?_
  refine lv_bipush (v := 10) hx hb dX5_see_17 (by decide) ?_
  refine lv_irem hx hb dX5_see_19 (by decide) ?_
  refine lv_ishl hx hb dX5_see_20 ?_
  refine lv_ior hx hb dX5_see_21 ?_
  refine lv_topi (fun x_3 ex_3 => ?_)
  replace hw := okN ex_3 hw
  clear ex_3
  obtain ⟨h_4, hw⟩ := okC hw
  refine va_iast (i := x_1) (x := x_3) hx hb hK hP hD hS 1 0 rfl rfl h_4 dX5_see_22 (fun H locs hP hD hS => ?_)
  have hP : va_P (dC, dI) vwCl (W_X5_see cyI cyJ cyO h_o a_o_howFar a_o_tones a_o_only a_o_fars a_o_cellAt a_o_ends a_o_seen a_o_begun o_last o_turnsLet o_slowsLet o_fuel o_glide o_count o_weightSum o_toPass o_foundNumber o_foundWeight o_foundTurns o_foundSlowed (upd o_seen x_1.toNatClampNeg x_3)) H := hP
  have hD : va_D A (W_X5_see cyI cyJ cyO h_o a_o_howFar a_o_tones a_o_only a_o_fars a_o_cellAt a_o_ends a_o_seen a_o_begun o_last o_turnsLet o_slowsLet o_fuel o_glide o_count o_weightSum o_toPass o_foundNumber o_foundWeight o_foundTurns o_foundSlowed (upd o_seen x_1.toNatClampNeg x_3)) := hD
  rw [hQ]
  exact W.vret hx hb hr (fun t ht hW => ⟨⟨(upd o_seen x_1.toNatClampNeg x_3), rfl, okS hw, by rw [ht]; exact hP, va_K.moved hW.alike hK, hD⟩, hS.F ht⟩) hS.2.2 dX5_see_23
/-! ===== X5_arrive ===== -/
theorem dX5_arrive_0 : decode cX5_arrive 0 = .ok (.bipush 32, 2) := by decide +kernel
theorem dX5_arrive_2 : decode cX5_arrive 2 = .ok (.iconst 2, 1) := by decide +kernel
theorem dX5_arrive_3 : decode cX5_arrive 3 = .ok (.iload_n 2, 1) := by decide +kernel
theorem dX5_arrive_4 : decode cX5_arrive 4 = .ok (.imul, 1) := by decide +kernel
theorem dX5_arrive_5 : decode cX5_arrive 5 = .ok (.iload_n 3, 1) := by decide +kernel
theorem dX5_arrive_6 : decode cX5_arrive 6 = .ok (.iadd, 1) := by decide +kernel
theorem dX5_arrive_7 : decode cX5_arrive 7 = .ok (.ishr, 1) := by decide +kernel
theorem dX5_arrive_8 : decode cX5_arrive 8 = .ok (.iload 4, 2) := by decide +kernel
theorem dX5_arrive_10 : decode cX5_arrive 10 = .ok (.imul, 1) := by decide +kernel
theorem dX5_arrive_11 : decode cX5_arrive 11 = .ok (.istore 5, 2) := by decide +kernel
theorem dX5_arrive_13 : decode cX5_arrive 13 = .ok (.aload_n 0, 1) := by decide +kernel
theorem dX5_arrive_14 : decode cX5_arrive 14 = .ok (.getfield 61, 3) := by decide +kernel
theorem dX5_arrive_17 : decode cX5_arrive 17 = .ok (.ifCond .le 14, 3) := by decide +kernel
theorem dX5_arrive_20 : decode cX5_arrive 20 = .ok (.aload_n 0, 1) := by decide +kernel
theorem dX5_arrive_21 : decode cX5_arrive 21 = .ok (.dup, 1) := by decide +kernel
theorem dX5_arrive_22 : decode cX5_arrive 22 = .ok (.getfield 61, 3) := by decide +kernel
theorem dX5_arrive_25 : decode cX5_arrive 25 = .ok (.iconst 1, 1) := by decide +kernel
theorem dX5_arrive_26 : decode cX5_arrive 26 = .ok (.isub, 1) := by decide +kernel
theorem dX5_arrive_27 : decode cX5_arrive 27 = .ok (.putfield 61, 3) := by decide +kernel
theorem dX5_arrive_30 : decode cX5_arrive 30 = .ok (.return_, 1) := by decide +kernel
theorem dX5_arrive_31 : decode cX5_arrive 31 = .ok (.aload_n 0, 1) := by decide +kernel
theorem dX5_arrive_32 : decode cX5_arrive 32 = .ok (.getfield 61, 3) := by decide +kernel
theorem dX5_arrive_35 : decode cX5_arrive 35 = .ok (.ifCond .ne 26, 3) := by decide +kernel
theorem dX5_arrive_38 : decode cX5_arrive 38 = .ok (.aload_n 0, 1) := by decide +kernel
theorem dX5_arrive_39 : decode cX5_arrive 39 = .ok (.bipush (-2), 2) := by decide +kernel
theorem dX5_arrive_41 : decode cX5_arrive 41 = .ok (.putfield 61, 3) := by decide +kernel
theorem dX5_arrive_44 : decode cX5_arrive 44 = .ok (.aload_n 0, 1) := by decide +kernel
theorem dX5_arrive_45 : decode cX5_arrive 45 = .ok (.iload 5, 2) := by decide +kernel
theorem dX5_arrive_47 : decode cX5_arrive 47 = .ok (.putfield 67, 3) := by decide +kernel
theorem dX5_arrive_50 : decode cX5_arrive 50 = .ok (.aload_n 0, 1) := by decide +kernel
theorem dX5_arrive_51 : decode cX5_arrive 51 = .ok (.iload_n 2, 1) := by decide +kernel
theorem dX5_arrive_52 : decode cX5_arrive 52 = .ok (.putfield 70, 3) := by decide +kernel
theorem dX5_arrive_55 : decode cX5_arrive 55 = .ok (.aload_n 0, 1) := by decide +kernel
theorem dX5_arrive_56 : decode cX5_arrive 56 = .ok (.iload_n 3, 1) := by decide +kernel
theorem dX5_arrive_57 : decode cX5_arrive 57 = .ok (.putfield 73, 3) := by decide +kernel
theorem dX5_arrive_60 : decode cX5_arrive 60 = .ok (.return_, 1) := by decide +kernel
theorem dX5_arrive_61 : decode cX5_arrive 61 = .ok (.aload_n 0, 1) := by decide +kernel
theorem dX5_arrive_62 : decode cX5_arrive 62 = .ok (.dup, 1) := by decide +kernel
theorem dX5_arrive_63 : decode cX5_arrive 63 = .ok (.getfield 54, 3) := by decide +kernel
theorem dX5_arrive_66 : decode cX5_arrive 66 = .ok (.iconst 1, 1) := by decide +kernel
theorem dX5_arrive_67 : decode cX5_arrive 67 = .ok (.iadd, 1) := by decide +kernel
theorem dX5_arrive_68 : decode cX5_arrive 68 = .ok (.putfield 54, 3) := by decide +kernel
theorem dX5_arrive_71 : decode cX5_arrive 71 = .ok (.aload_n 0, 1) := by decide +kernel
theorem dX5_arrive_72 : decode cX5_arrive 72 = .ok (.dup, 1) := by decide +kernel
theorem dX5_arrive_73 : decode cX5_arrive 73 = .ok (.getfield 57, 3) := by decide +kernel
theorem dX5_arrive_76 : decode cX5_arrive 76 = .ok (.iload 5, 2) := by decide +kernel
theorem dX5_arrive_78 : decode cX5_arrive 78 = .ok (.i2l, 1) := by decide +kernel
theorem dX5_arrive_79 : decode cX5_arrive 79 = .ok (.ladd, 1) := by decide +kernel
theorem dX5_arrive_80 : decode cX5_arrive 80 = .ok (.putfield 57, 3) := by decide +kernel
theorem dX5_arrive_83 : decode cX5_arrive 83 = .ok (.iconst 0, 1) := by decide +kernel
theorem dX5_arrive_84 : decode cX5_arrive 84 = .ok (.istore 6, 2) := by decide +kernel
theorem dX5_arrive_86 : decode cX5_arrive 86 = .ok (.iload 6, 2) := by decide +kernel
theorem dX5_arrive_88 : decode cX5_arrive 88 = .ok (.aload_n 0, 1) := by decide +kernel
theorem dX5_arrive_89 : decode cX5_arrive 89 = .ok (.getfield 38, 3) := by decide +kernel
theorem dX5_arrive_92 : decode cX5_arrive 92 = .ok (.if_icmp .gt 58, 3) := by decide +kernel
theorem dX5_arrive_95 : decode cX5_arrive 95 = .ok (.aload_n 0, 1) := by decide +kernel
theorem dX5_arrive_96 : decode cX5_arrive 96 = .ok (.getfield 41, 3) := by decide +kernel
theorem dX5_arrive_99 : decode cX5_arrive 99 = .ok (.aload_n 0, 1) := by decide +kernel
theorem dX5_arrive_100 : decode cX5_arrive 100 = .ok (.getfield 24, 3) := by decide +kernel
theorem dX5_arrive_103 : decode cX5_arrive 103 = .ok (.iaload, 1) := by decide +kernel
theorem dX5_arrive_104 : decode cX5_arrive 104 = .ok (.iload_n 1, 1) := by decide +kernel
theorem dX5_arrive_105 : decode cX5_arrive 105 = .ok (.iload 6, 2) := by decide +kernel
theorem dX5_arrive_107 : decode cX5_arrive 107 = .ok (.invokestatic 111, 3) := by decide +kernel
theorem dX5_arrive_110 : decode cX5_arrive 110 = .ok (.istore 7, 2) := by decide +kernel
theorem dX5_arrive_112 : decode cX5_arrive 112 = .ok (.iload 7, 2) := by decide +kernel
theorem dX5_arrive_114 : decode cX5_arrive 114 = .ok (.iconst (-1), 1) := by decide +kernel
theorem dX5_arrive_115 : decode cX5_arrive 115 = .ok (.if_icmp .eq 29, 3) := by decide +kernel
theorem dX5_arrive_118 : decode cX5_arrive 118 = .ok (.aload_n 0, 1) := by decide +kernel
theorem dX5_arrive_119 : decode cX5_arrive 119 = .ok (.getfield 44, 3) := by decide +kernel
theorem dX5_arrive_122 : decode cX5_arrive 122 = .ok (.iload 7, 2) := by decide +kernel
theorem dX5_arrive_124 : decode cX5_arrive 124 = .ok (.dup2, 1) := by decide +kernel
theorem dX5_arrive_125 : decode cX5_arrive 125 = .ok (.laload, 1) := by decide +kernel
theorem dX5_arrive_126 : decode cX5_arrive 126 = .ok (.iload 6, 2) := by decide +kernel
theorem dX5_arrive_128 : decode cX5_arrive 128 = .ok (.ifCond .ne 11, 3) := by decide +kernel
theorem dX5_arrive_131 : decode cX5_arrive 131 = .ok (.iconst 2, 1) := by decide +kernel
theorem dX5_arrive_132 : decode cX5_arrive 132 = .ok (.iload 5, 2) := by decide +kernel
theorem dX5_arrive_134 : decode cX5_arrive 134 = .ok (.imul, 1) := by decide +kernel
theorem dX5_arrive_135 : decode cX5_arrive 135 = .ok (.i2l, 1) := by decide +kernel
theorem dX5_arrive_136 : decode cX5_arrive 136 = .ok (.goto 6, 3) := by decide +kernel
theorem dX5_arrive_139 : decode cX5_arrive 139 = .ok (.iload 5, 2) := by decide +kernel
theorem dX5_arrive_141 : decode cX5_arrive 141 = .ok (.i2l, 1) := by decide +kernel
theorem dX5_arrive_142 : decode cX5_arrive 142 = .ok (.ladd, 1) := by decide +kernel
theorem dX5_arrive_143 : decode cX5_arrive 143 = .ok (.lastore, 1) := by decide +kernel
theorem dX5_arrive_144 : decode cX5_arrive 144 = .ok (.iinc 6 1, 3) := by decide +kernel
theorem dX5_arrive_147 : decode cX5_arrive 147 = .ok (.goto (-61), 3) := by decide +kernel
theorem dX5_arrive_150 : decode cX5_arrive 150 = .ok (.return_, 1) := by decide +kernel
abbrev W_X5_arrive (cyI cyJ cyO : ClassId) (h_o a_o_howFar a_o_tones a_o_only a_o_fars a_o_cellAt a_o_ends a_o_seen a_o_begun : Nat) (o_last : Int32) (o_turnsLet : Int32) (o_slowsLet : Int32) (o_fuel : Int32) (o_glide : Int32) (o_count : Int32) (o_weightSum : Int64) (o_toPass : Int32) (o_foundNumber : Int32) (o_foundWeight : Int32) (o_foundTurns : Int32) (o_foundSlowed : Int32) (o_cellAt : Nat → Int32) (o_ends : Nat → Int64) : va_W := [(h_o, .inr (5, [.ref a_o_howFar, .ref a_o_tones, .ref a_o_only, .ref a_o_fars, .int o_last, .int o_turnsLet, .int o_slowsLet, .int o_fuel, .int o_glide, .ref a_o_cellAt, .ref a_o_ends, .ref a_o_seen, .ref a_o_begun, .int o_count, .long o_weightSum, .int o_toPass, .int o_foundNumber, .int o_foundWeight, .int o_foundTurns, .int o_foundSlowed])), (a_o_cellAt, .inl (cyI, 7, .inl o_cellAt)), (a_o_ends, .inl (cyJ, 100, .inr (.inl o_ends)))]
def f_X5_arrive_B144 (k86 : Int32 → Int32 → Int32 → Int32 → Int32 → Int32 → Int64 → Int32 → Int32 → Int32 → Int32 → (Nat → Int32) → (Nat → Int64) → Option (Int32 × Int64 × Int32 × Int32 × Int32 × Int32 × (Nat → Int64))) (v1 : Int32) (v5 : Int32) (v6 : Int32) (o_last : Int32) (o_glide : Int32) (o_count : Int32) (o_weightSum : Int64) (o_toPass : Int32) (o_foundWeight : Int32) (o_foundTurns : Int32) (o_foundSlowed : Int32) (o_cellAt : Nat → Int32) (o_ends : Nat → Int64) : Option (Int32 × Int64 × Int32 × Int32 × Int32 × Int32 × (Nat → Int64)) :=
  nm (v6 + 1) fun x_1 =>
  k86 v1 v5 x_1 o_last o_glide o_count o_weightSum o_toPass o_foundWeight o_foundTurns o_foundSlowed o_cellAt o_ends
def f_X5_arrive_B142 (k86 : Int32 → Int32 → Int32 → Int32 → Int32 → Int32 → Int64 → Int32 → Int32 → Int32 → Int32 → (Nat → Int32) → (Nat → Int64) → Option (Int32 × Int64 × Int32 × Int32 × Int32 × Int32 × (Nat → Int64))) (v1 : Int32) (v5 : Int32) (v6 : Int32) (y0 : Int64) (y1 : Int64) (y2 : Int32) (o_last : Int32) (o_glide : Int32) (o_count : Int32) (o_weightSum : Int64) (o_toPass : Int32) (o_foundWeight : Int32) (o_foundTurns : Int32) (o_foundSlowed : Int32) (o_cellAt : Nat → Int32) (o_ends : Nat → Int64) : Option (Int32 × Int64 × Int32 × Int32 × Int32 × Int32 × (Nat → Int64)) :=
  nm (y1 + y0) fun x_2 =>
  chk (¬ (y2 < 0 ∨ 100 ≤ y2.toNatClampNeg)) <|
  f_X5_arrive_B144 k86 v1 v5 v6 o_last o_glide o_count o_weightSum o_toPass o_foundWeight o_foundTurns o_foundSlowed o_cellAt (vp_updL o_ends y2.toNatClampNeg x_2)
def f_X5_arrive_L86b (k86 : Int32 → Int32 → Int32 → Int32 → Int32 → Int32 → Int64 → Int32 → Int32 → Int32 → Int32 → (Nat → Int32) → (Nat → Int64) → Option (Int32 × Int64 × Int32 × Int32 × Int32 × Int32 × (Nat → Int64))) (v1 : Int32) (v5 : Int32) (v6 : Int32) (o_last : Int32) (o_glide : Int32) (o_count : Int32) (o_weightSum : Int64) (o_toPass : Int32) (o_foundWeight : Int32) (o_foundTurns : Int32) (o_foundSlowed : Int32) (o_cellAt : Nat → Int32) (o_ends : Nat → Int64) : Option (Int32 × Int64 × Int32 × Int32 × Int32 × Int32 × (Nat → Int64)) :=
  if o_glide < v6 then
    some (o_count, o_weightSum, o_toPass, o_foundWeight, o_foundTurns, o_foundSlowed, o_ends)
  else
    chk (¬ (o_last < 0 ∨ 7 ≤ o_last.toNatClampNeg)) <|
    bd1 (f_X6_ahead (o_cellAt o_last.toNatClampNeg) v1 v6) fun r_3 =>
    if r_3 = (-1) then
      f_X5_arrive_B144 k86 v1 v5 v6 o_last o_glide o_count o_weightSum o_toPass o_foundWeight o_foundTurns o_foundSlowed o_cellAt o_ends
    else
      chk (¬ (r_3 < 0 ∨ 100 ≤ r_3.toNatClampNeg)) <|
      if v6 = 0 then
        f_X5_arrive_B142 k86 v1 v5 v6 ((2 * v5).toInt64) (o_ends r_3.toNatClampNeg) r_3 o_last o_glide o_count o_weightSum o_toPass o_foundWeight o_foundTurns o_foundSlowed o_cellAt o_ends
      else
        f_X5_arrive_B142 k86 v1 v5 v6 v5.toInt64 (o_ends r_3.toNatClampNeg) r_3 o_last o_glide o_count o_weightSum o_toPass o_foundWeight o_foundTurns o_foundSlowed o_cellAt o_ends
def f_X5_arrive_L86 : Nat → Int32 → Int32 → Int32 → Int32 → Int32 → Int32 → Int64 → Int32 → Int32 → Int32 → Int32 → (Nat → Int32) → (Nat → Int64) → Option (Int32 × Int64 × Int32 × Int32 × Int32 × Int32 × (Nat → Int64))
  | 0 => fun _ _ _ _ _ _ _ _ _ _ _ _ _ => none
  | n + 1 => f_X5_arrive_L86b (f_X5_arrive_L86 n)
def f_X5_arrive (x1 : Int32) (x2 : Int32) (x3 : Int32) (x4 : Int32) (o_last : Int32) (o_glide : Int32) (o_count : Int32) (o_weightSum : Int64) (o_toPass : Int32) (o_foundWeight : Int32) (o_foundTurns : Int32) (o_foundSlowed : Int32) (o_cellAt : Nat → Int32) (o_ends : Nat → Int64) : Option (Int32 × Int64 × Int32 × Int32 × Int32 × Int32 × (Nat → Int64)) :=
  nm ((32 >>> (((2 * x2) + x3) &&& 31)) * x4) fun x_4 =>
  if o_toPass ≤ 0 then
    if o_toPass = 0 then
      some (o_count, o_weightSum, (-2), x_4, x2, x3, o_ends)
    else
      nm (o_count + 1) fun x_5 =>
      nm (o_weightSum + x_4.toInt64) fun x_6 =>
      f_X5_arrive_L86 FU x1 x_4 0 o_last o_glide x_5 x_6 o_toPass o_foundWeight o_foundTurns o_foundSlowed o_cellAt o_ends
  else
    nm (o_toPass - 1) fun x_7 =>
    some (o_count, o_weightSum, x_7, o_foundWeight, o_foundTurns, o_foundSlowed, o_ends)
abbrev rm_X5_arrive : Room := { frames := 1, cells := 0, slots := 0, locals := 25 }
set_option maxRecDepth 100000 in
set_option maxHeartbeats 4000000 in
theorem c_X5_arrive (l : Launch) (dC : Nat → ClassId) (dI : Nat → Nat → Nat) (cyI cyJ cyO : ClassId) (sz : Nat) (tD tR tL tM : Nat) (h_o a_o_howFar a_o_tones a_o_only a_o_fars a_o_cellAt a_o_ends a_o_seen a_o_begun : Nat) (o_last : Int32) (o_turnsLet : Int32) (o_slowsLet : Int32) (o_fuel : Int32) (o_glide : Int32) (o_count : Int32) (o_weightSum : Int64) (o_toPass : Int32) (o_foundNumber : Int32) (o_foundWeight : Int32) (o_foundTurns : Int32) (o_foundSlowed : Int32) (o_cellAt : Nat → Int32) (o_ends : Nat → Int64) (x1 : Int32) (x2 : Int32) (x3 : Int32) (x4 : Int32) (post : (Int32 × Int64 × Int32 × Int32 × Int32 × Int32 × (Nat → Int64)) → Prop) (hf : okP (f_X5_arrive x1 x2 x3 x4 o_last o_glide o_count o_weightSum o_toPass o_foundWeight o_foundTurns o_foundSlowed o_cellAt o_ends) post) : Cv l (dC, dI) (tyL cyI cyJ cyO) yX5_arrive wsX5_arrive rm_X5_arrive [.ref h_o, .int x1, .int x2, .int x3, .int x4] sz (W_X5_arrive cyI cyJ cyO h_o a_o_howFar a_o_tones a_o_only a_o_fars a_o_cellAt a_o_ends a_o_seen a_o_begun o_last o_turnsLet o_slowsLet o_fuel o_glide o_count o_weightSum o_toPass o_foundNumber o_foundWeight o_foundTurns o_foundSlowed o_cellAt o_ends) (zX tD tR tL tM) (fun u => post u) (fun u => (W_X5_arrive cyI cyJ cyO h_o a_o_howFar a_o_tones a_o_only a_o_fars a_o_cellAt a_o_ends a_o_seen a_o_begun o_last o_turnsLet o_slowsLet o_fuel o_glide u.1 u.2.1 u.2.2.1 o_foundNumber u.2.2.2.1 u.2.2.2.2.1 u.2.2.2.2.2.1 o_cellAt u.2.2.2.2.2.2)) := by
  refine Met.ofW (cc := cX5_arrive) (maxL := 8) (ret := none) (by decide) rfl ?_
  intro p e s m args below meth c s₁ B hml hv
  obtain ⟨rfl, hsz, hP, hK, hD0, hZ⟩ := hv
  have hx := B.exec
  have hb := B.bytes
  have hr := B.returns
  have hts := atoms_spec (ws := wsX5_arrive) B.pre
  have hown : s.vm.findClass RX5 = some m.cls := findClass_of_methodNamed B.named
  have hlocks := B.notSynchronized
  subst hsz
  have hD := hD0.self (sz := s.heap.size)
  generalize hAe : va_A (W_X5_arrive cyI cyJ cyO h_o a_o_howFar a_o_tones a_o_only a_o_fars a_o_cellAt a_o_ends a_o_seen a_o_begun o_last o_turnsLet o_slowsLet o_fuel o_glide o_count o_weightSum o_toPass o_foundNumber o_foundWeight o_foundTurns o_foundSlowed o_cellAt o_ends) s.heap.size = A at hD hZ ⊢
  have hA : ∀ q : Nat, s.heap.size ≤ q → A q := fun q h => by rw [← hAe]; exact Or.inr h
  clear hAe hD0
  have hS : va_S A s.heap s.heap [] := va_S.rf
  have hl := lv_entry ([.ref h_o, .int x1, .int x2, .int x3, .int x4]) (n := 8) (Nat.le_of_ble_eq_true rfl)
  rw [lg_entry_eq]
  generalize (lg_sl ([.ref h_o, .int x1, .int x2, .int x3, .int x4]) ++ List.replicate (8 - (lg_sl ([.ref h_o, .int x1, .int x2, .int x3, .int x4])).length) Slot.unset).toArray = ls at hl ⊢
  have hl : lv_has ls 8 [(0, .ref h_o), (1, .int x1), (2, .int x2), (3, .int x3), (4, .int x4)] := hl
  refine kW (fun Q hQ => ?_)
  have hq0 := hts _ (List.mem_cons_of_mem _ q_125)
  have hi5 : ∀ w ∈ u_ws RX5 TX5 20, w ∈ wsX5_arrive := fun w h => List.mem_cons_of_mem _ (inX5 w h)
  have hq2 := hts _ (List.mem_cons_of_mem _ q_126)
  have hq3 := hts _ (List.mem_cons_of_mem _ q_121)
  have hq4 := hts _ (List.mem_cons_of_mem _ q_1)
  have hq5 := hts _ (List.mem_cons_of_mem _ q_417)
  have hq6 := hts _ (List.mem_cons_of_mem _ q_128)
  have hq7 := hts _ (List.mem_cons_of_mem _ q_137)
  have hq8 := hts _ (List.mem_cons_of_mem _ q_133)
  have hq9 := hts _ (List.mem_cons_of_mem _ q_135)
  have hq10 := hts _ (List.mem_cons_of_mem _ q_139)
  have hq11 := hts _ (List.mem_cons_of_mem _ q_141)
  have hq12 := hts _ (List.mem_cons_of_mem _ q_143)
  have hw := hf
  have w86 : ∀ (n : Nat), ∀ (v1 : Int32) (v5 : Int32) (v6 : Int32) (o_count : Int32) (o_weightSum : Int64) (o_toPass : Int32) (o_foundWeight : Int32) (o_foundTurns : Int32) (o_foundSlowed : Int32) (o_ends : Nat → Int64) (H : Heap) (locs : List Loc), va_P (dC, dI) vwCl (W_X5_arrive cyI cyJ cyO h_o a_o_howFar a_o_tones a_o_only a_o_fars a_o_cellAt a_o_ends a_o_seen a_o_begun o_last o_turnsLet o_slowsLet o_fuel o_glide o_count o_weightSum o_toPass o_foundNumber o_foundWeight o_foundTurns o_foundSlowed o_cellAt o_ends) H → va_D A (W_X5_arrive cyI cyJ cyO h_o a_o_howFar a_o_tones a_o_only a_o_fars a_o_cellAt a_o_ends a_o_seen a_o_begun o_last o_turnsLet o_slowsLet o_fuel o_glide o_count o_weightSum o_toPass o_foundNumber o_foundWeight o_foundTurns o_foundSlowed o_cellAt o_ends) → va_S A s.heap H locs → ∀ (ls : Array Slot), lv_has ls 8 [(0, .ref h_o), (1, .int v1), (5, .int v5), (6, .int v6)] → okP (f_X5_arrive_L86 n v1 v5 v6 o_last o_glide o_count o_weightSum o_toPass o_foundWeight o_foundTurns o_foundSlowed o_cellAt o_ends) post → W p l e (headSpec wsX5_arrive rm_X5_arrive).room s m ([.ref h_o, .int x1, .int x2, .int x3, .int x4] : List Value).toArray below meth c H locs 0 0 Q (F0 m 86 ls []) := by
    intro n
    induction n with
    | zero =>
      intro v1 v5 v6 o_count o_weightSum o_toPass o_foundWeight o_foundTurns o_foundSlowed o_ends H locs hP hD hS ls hl hw
      exact (ok0 hw).elim
    | succ n86 ih86 =>
      have w144 : ∀ (v1 : Int32) (v5 : Int32) (v6 : Int32) (o_count : Int32) (o_weightSum : Int64) (o_toPass : Int32) (o_foundWeight : Int32) (o_foundTurns : Int32) (o_foundSlowed : Int32) (o_ends : Nat → Int64) (H : Heap) (locs : List Loc), va_P (dC, dI) vwCl (W_X5_arrive cyI cyJ cyO h_o a_o_howFar a_o_tones a_o_only a_o_fars a_o_cellAt a_o_ends a_o_seen a_o_begun o_last o_turnsLet o_slowsLet o_fuel o_glide o_count o_weightSum o_toPass o_foundNumber o_foundWeight o_foundTurns o_foundSlowed o_cellAt o_ends) H → va_D A (W_X5_arrive cyI cyJ cyO h_o a_o_howFar a_o_tones a_o_only a_o_fars a_o_cellAt a_o_ends a_o_seen a_o_begun o_last o_turnsLet o_slowsLet o_fuel o_glide o_count o_weightSum o_toPass o_foundNumber o_foundWeight o_foundTurns o_foundSlowed o_cellAt o_ends) → va_S A s.heap H locs → ∀ (ls : Array Slot), lv_has ls 8 [(0, .ref h_o), (1, .int v1), (5, .int v5), (6, .int v6)] → okP (f_X5_arrive_B144 (f_X5_arrive_L86 n86) v1 v5 v6 o_last o_glide o_count o_weightSum o_toPass o_foundWeight o_foundTurns o_foundSlowed o_cellAt o_ends) post → W p l e (headSpec wsX5_arrive rm_X5_arrive).room s m ([.ref h_o, .int x1, .int x2, .int x3, .int x4] : List Value).toArray below meth c H locs 0 0 Q (F0 m 144 ls []) := by
        intro v1 v5 v6 o_count o_weightSum o_toPass o_foundWeight o_foundTurns o_foundSlowed o_ends H locs hP hD hS ls hl hw
        unfold f_X5_arrive_B144 at hw
        obtain ⟨x_1, ex_1⟩ : ∃ y : Int32, y = v6 + 1 := ⟨_, rfl⟩
        replace hw := okN ex_1 hw
        refine lv_iinc (v := x_1) (lv' := [(6, .int x_1), (0, .ref h_o), (1, .int v1), (5, .int v5)]) hx hb dX5_arrive_144 hl (k := 3) rfl (by rw [ex_1]; rfl) (by decide) rfl (fun ls hl => ?_)
        clear ex_1
        refine lv_goto (tgt := 86) hx hb dX5_arrive_147 (by decide) ?_
        exact ih86 v1 v5 x_1 o_count o_weightSum o_toPass o_foundWeight o_foundTurns o_foundSlowed o_ends _ _ hP hD hS _ (lv_sub hl [1, 2, 3, 0] rfl) hw
      have w142 : ∀ (v1 : Int32) (v5 : Int32) (v6 : Int32) (y0 : Int64) (y1 : Int64) (y2 : Int32) (o_count : Int32) (o_weightSum : Int64) (o_toPass : Int32) (o_foundWeight : Int32) (o_foundTurns : Int32) (o_foundSlowed : Int32) (o_ends : Nat → Int64) (H : Heap) (locs : List Loc), va_P (dC, dI) vwCl (W_X5_arrive cyI cyJ cyO h_o a_o_howFar a_o_tones a_o_only a_o_fars a_o_cellAt a_o_ends a_o_seen a_o_begun o_last o_turnsLet o_slowsLet o_fuel o_glide o_count o_weightSum o_toPass o_foundNumber o_foundWeight o_foundTurns o_foundSlowed o_cellAt o_ends) H → va_D A (W_X5_arrive cyI cyJ cyO h_o a_o_howFar a_o_tones a_o_only a_o_fars a_o_cellAt a_o_ends a_o_seen a_o_begun o_last o_turnsLet o_slowsLet o_fuel o_glide o_count o_weightSum o_toPass o_foundNumber o_foundWeight o_foundTurns o_foundSlowed o_cellAt o_ends) → va_S A s.heap H locs → ∀ (ls : Array Slot), lv_has ls 8 [(0, .ref h_o), (1, .int v1), (5, .int v5), (6, .int v6)] → okP (f_X5_arrive_B142 (f_X5_arrive_L86 n86) v1 v5 v6 y0 y1 y2 o_last o_glide o_count o_weightSum o_toPass o_foundWeight o_foundTurns o_foundSlowed o_cellAt o_ends) post → W p l e (headSpec wsX5_arrive rm_X5_arrive).room s m ([.ref h_o, .int x1, .int x2, .int x3, .int x4] : List Value).toArray below meth c H locs 0 0 Q (F0 m 142 ls [.long y0, .long y1, .int y2, .ref a_o_ends]) := by
        intro v1 v5 v6 y0 y1 y2 o_count o_weightSum o_toPass o_foundWeight o_foundTurns o_foundSlowed o_ends H locs hP hD hS ls hl hw
        unfold f_X5_arrive_B142 at hw
        refine lv_ladd hx hb dX5_arrive_142 ?_
        refine lv_topl (fun x_2 ex_2 => ?_)
        replace hw := okN ex_2 hw
        clear ex_2
        obtain ⟨h_3, hw⟩ := okC hw
        refine va_last (i := y2) (x := x_2) hx hb hK hP hD hS 2 1 rfl rfl h_3 dX5_arrive_143 (fun H locs hP hD hS => ?_)
        have hP : va_P (dC, dI) vwCl (W_X5_arrive cyI cyJ cyO h_o a_o_howFar a_o_tones a_o_only a_o_fars a_o_cellAt a_o_ends a_o_seen a_o_begun o_last o_turnsLet o_slowsLet o_fuel o_glide o_count o_weightSum o_toPass o_foundNumber o_foundWeight o_foundTurns o_foundSlowed o_cellAt (vp_updL o_ends y2.toNatClampNeg x_2)) H := hP
        have hD : va_D A (W_X5_arrive cyI cyJ cyO h_o a_o_howFar a_o_tones a_o_only a_o_fars a_o_cellAt a_o_ends a_o_seen a_o_begun o_last o_turnsLet o_slowsLet o_fuel o_glide o_count o_weightSum o_toPass o_foundNumber o_foundWeight o_foundTurns o_foundSlowed o_cellAt (vp_updL o_ends y2.toNatClampNeg x_2)) := hD
        exact w144 v1 v5 v6 o_count o_weightSum o_toPass o_foundWeight o_foundTurns o_foundSlowed (vp_updL o_ends y2.toNatClampNeg x_2) _ _ hP hD hS _ (lv_sub hl [0, 1, 2, 3] rfl) hw
      intro v1 v5 v6 o_count o_weightSum o_toPass o_foundWeight o_foundTurns o_foundSlowed o_ends H locs hP hD hS ls hl hw
      replace hw : okP (f_X5_arrive_L86b (f_X5_arrive_L86 n86) v1 v5 v6 o_last o_glide o_count o_weightSum o_toPass o_foundWeight o_foundTurns o_foundSlowed o_cellAt o_ends) post := hw
      unfold f_X5_arrive_L86b at hw
      refine lv_iload hx hb dX5_arrive_86 (lv_at hl 3 rfl) ?_
      refine lv_aload_n hx hb dX5_arrive_88 rfl (lv_at hl 0 rfl) ?_
      refine va_get (D := (dC, dI)) (ci := 5) (v := .int o_glide) (C := RX5) (T := TX5) (N := 20) hx hb hts hi5 hown hK hP 0 rfl rfl 8 (by decide) hq0 (fun _ h9 => h9) rfl dX5_arrive_89 ?_
      refine lv_icmp_gt (tgt := 150) hx hb dX5_arrive_92 (by decide) (fun c_4 => ?_) (fun c_4 => ?_)
      · replace hw := okT hw c_4
        clear c_4
        rw [hQ]
        exact W.vret hx hb hr (fun t ht hW => ⟨⟨(o_count, o_weightSum, o_toPass, o_foundWeight, o_foundTurns, o_foundSlowed, o_ends), rfl, okS hw, by rw [ht]; exact hP, va_K.moved hW.alike hK, hD⟩, hS.F ht⟩) hS.2.2 dX5_arrive_150
      · replace hw := okF hw c_4
        clear c_4
        refine lv_aload_n hx hb dX5_arrive_95 rfl (lv_at hl 0 rfl) ?_
        refine va_get (D := (dC, dI)) (ci := 5) (v := .ref a_o_cellAt) (C := RX5) (T := TX5) (N := 20) hx hb hts hi5 hown hK hP 0 rfl rfl 9 (by decide) hq2 (fun _ h9 => h9) rfl dX5_arrive_96 ?_
        refine lv_aload_n hx hb dX5_arrive_99 rfl (lv_at hl 0 rfl) ?_
        refine va_get (D := (dC, dI)) (ci := 5) (v := .int o_last) (C := RX5) (T := TX5) (N := 20) hx hb hts hi5 hown hK hP 0 rfl rfl 4 (by decide) hq3 (fun _ h9 => h9) rfl dX5_arrive_100 ?_
        obtain ⟨h_5, hw⟩ := okC hw
        refine va_iald (i := o_last) hx hb hK hP 1 0 rfl rfl h_5 dX5_arrive_103 ?_
        refine lv_iload_n hx hb dX5_arrive_104 rfl (lv_at hl 1 rfl) ?_
        refine lv_iload hx hb dX5_arrive_105 (lv_at hl 3 rfl) ?_
        have hFc := va_free (wc := []) hD hS hA [] rfl
        refine kp_i (va_runSN (As := [.int (o_cellAt o_last.toNatClampNeg), .int v1, .int v6]) (rest := []) ⟨hx, hb, hml, hown, hts⟩ (c_X6_ahead l dC dI cyI cyJ cyO H.size tD tR tL tM (o_cellAt o_last.toNatClampNeg) v1 v6 _ (okb1 hw)) ⟨va_cnB 3 hts (gdN (fun w h => List.mem_cons_of_mem _ h) q_418) rfl rfl rfl hZ.2.2.2.2.2.2.2.2.2.1 hq4 (by decide +kernel) ⟨Nat.le_of_ble_eq_true rfl, Nat.le_of_ble_eq_true rfl⟩, hq5, trivial⟩ (kpre zX_ok hK va_P0 va_D0 hZ hS hFc) rfl rfl hl.1 rfl (lv_room (Nat.le_of_ble_eq_true rfl)) dX5_arrive_107 ⟨Nat.le_of_ble_eq_true rfl, Nat.le_of_ble_eq_true rfl⟩) hP hD hS hFc (fun r_6 H locs hw hP hS => ?_)
        try dsimp only at hw
        clear hFc
        refine lv_istore (lv' := [(7, .int r_6), (0, .ref h_o), (1, .int v1), (5, .int v5), (6, .int v6)]) hx hb dX5_arrive_110 hl (by decide) rfl (fun ls hl => ?_)
        refine lv_iload hx hb dX5_arrive_112 (lv_at hl 0 rfl) ?_
        refine lv_iconst (v := (-1)) hx hb dX5_arrive_114 (by decide) ?_
        refine lv_icmp_eq (tgt := 144) hx hb dX5_arrive_115 (by decide) (fun c_7 => ?_) (fun c_7 => ?_)
        · replace hw := okT hw c_7
          clear c_7
          exact w144 v1 v5 v6 o_count o_weightSum o_toPass o_foundWeight o_foundTurns o_foundSlowed o_ends _ _ hP hD hS _ (lv_sub hl [1, 2, 3, 4] rfl) hw
        · replace hw := okF hw c_7
          clear c_7
          refine lv_aload_n hx hb dX5_arrive_118 rfl (lv_at hl 1 rfl) ?_
          refine va_get (D := (dC, dI)) (ci := 5) (v := .ref a_o_ends) (C := RX5) (T := TX5) (N := 20) hx hb hts hi5 hown hK hP 0 rfl rfl 10 (by decide) hq6 (fun _ h9 => h9) rfl dX5_arrive_119 ?_
          refine lv_iload hx hb dX5_arrive_122 (lv_at hl 0 rfl) ?_
          refine lv_dup2_11 hx hb dX5_arrive_124 rfl rfl ?_
          obtain ⟨h_8, hw⟩ := okC hw
          refine va_lald (i := r_6) hx hb hK hP 2 1 rfl rfl h_8 dX5_arrive_125 ?_
          refine lv_iload hx hb dX5_arrive_126 (lv_at hl 4 rfl) ?_
          refine lv_if_ne (tgt := 139) hx hb dX5_arrive_128 (by decide) (fun c_9 => ?_) (fun c_9 => ?_)
          · replace hw := okF hw c_9
            clear c_9
            refine lv_iload hx hb dX5_arrive_139 (lv_at hl 3 rfl) ?_
            refine lv_i2l (v := v5.toInt64) hx hb dX5_arrive_141 rfl ?_
            exact w142 v1 v5 v6 v5.toInt64 (o_ends r_6.toNatClampNeg) r_6 o_count o_weightSum o_toPass o_foundWeight o_foundTurns o_foundSlowed o_ends _ _ hP hD hS _ (lv_sub hl [1, 2, 3, 4] rfl) hw
          · replace hw := okT hw c_9
            clear c_9
            refine lv_iconst (v := 2) hx hb dX5_arrive_131 (by decide) ?_
            refine lv_iload hx hb dX5_arrive_132 (lv_at hl 3 rfl) ?_
            refine lv_imul hx hb dX5_arrive_134 ?_
            refine lv_i2l (v := (2 * v5).toInt64) hx hb dX5_arrive_135 rfl ?_
            refine lv_goto (tgt := 142) hx hb dX5_arrive_136 (by decide) ?_
            exact w142 v1 v5 v6 ((2 * v5).toInt64) (o_ends r_6.toNatClampNeg) r_6 o_count o_weightSum o_toPass o_foundWeight o_foundTurns o_foundSlowed o_ends _ _ hP hD hS _ (lv_sub hl [1, 2, 3, 4] rfl) hw
  unfold f_X5_arrive at hw
  have hP : va_P (dC, dI) vwCl (W_X5_arrive cyI cyJ cyO h_o a_o_howFar a_o_tones a_o_only a_o_fars a_o_cellAt a_o_ends a_o_seen a_o_begun o_last o_turnsLet o_slowsLet o_fuel o_glide o_count o_weightSum o_toPass o_foundNumber o_foundWeight o_foundTurns o_foundSlowed o_cellAt o_ends) s.heap := hP
  obtain ⟨H, hH⟩ : ∃ H, H = s.heap := ⟨_, rfl⟩
  obtain ⟨locs, hlo⟩ : ∃ x : List Loc, x = [] := ⟨_, rfl⟩
  have hP : va_P (dC, dI) vwCl (W_X5_arrive cyI cyJ cyO h_o a_o_howFar a_o_tones a_o_only a_o_fars a_o_cellAt a_o_ends a_o_seen a_o_begun o_last o_turnsLet o_slowsLet o_fuel o_glide o_count o_weightSum o_toPass o_foundNumber o_foundWeight o_foundTurns o_foundSlowed o_cellAt o_ends) H := by rw [hH]; exact hP
  have hS : va_S A s.heap H locs := by rw [hH, hlo]; exact hS
  refine kH hH hlo ?_
  clear hH hlo
  refine lv_bipush (v := 32) hx hb dX5_arrive_0 (by decide) ?_
  refine lv_iconst (v := 2) hx hb dX5_arrive_2 (by decide) ?_
  refine lv_iload_n hx hb dX5_arrive_3 rfl (lv_at hl 2 rfl) ?_
  refine lv_imul hx hb dX5_arrive_4 ?_
  refine lv_iload_n hx hb dX5_arrive_5 rfl (lv_at hl 3 rfl) ?_
  refine lv_iadd hx hb dX5_arrive_6 ?_
  refine lv_ishr hx hb dX5_arrive_7 ?_
  refine lv_iload hx hb dX5_arrive_8 (lv_at hl 4 rfl) ?_
  refine lv_imul hx hb dX5_arrive_10 ?_
  refine lv_topi (fun x_10 ex_10 => ?_)
  replace hw := okN ex_10 hw
  clear ex_10
  refine lv_istore (lv' := [(5, .int x_10), (0, .ref h_o), (1, .int x1), (2, .int x2), (3, .int x3), (4, .int x4)]) hx hb dX5_arrive_11 hl (by decide) rfl (fun ls hl => ?_)
  refine lv_aload_n hx hb dX5_arrive_13 rfl (lv_at hl 1 rfl) ?_
  refine va_get (D := (dC, dI)) (ci := 5) (v := .int o_toPass) (C := RX5) (T := TX5) (N := 20) hx hb hts hi5 hown hK hP 0 rfl rfl 15 (by decide) hq7 (fun _ h9 => h9) rfl dX5_arrive_14 ?_
  refine lv_if_le (tgt := 31) hx hb dX5_arrive_17 (by decide) (fun c_11 => ?_) (fun c_11 => ?_)
  · replace hw := okT hw c_11
    clear c_11
    refine lv_aload_n hx hb dX5_arrive_31 rfl (lv_at hl 1 rfl) ?_
    refine va_get (D := (dC, dI)) (ci := 5) (v := .int o_toPass) (C := RX5) (T := TX5) (N := 20) hx hb hts hi5 hown hK hP 0 rfl rfl 15 (by decide) hq7 (fun _ h9 => h9) rfl dX5_arrive_32 ?_
    refine lv_if_ne (tgt := 61) hx hb dX5_arrive_35 (by decide) (fun c_12 => ?_) (fun c_12 => ?_)
    · replace hw := okF hw c_12
      clear c_12
      refine lv_aload_n hx hb dX5_arrive_61 rfl (lv_at hl 1 rfl) ?_
      refine lv_dup hx hb dX5_arrive_62 rfl ?_
      refine va_get (D := (dC, dI)) (ci := 5) (v := .int o_count) (C := RX5) (T := TX5) (N := 20) hx hb hts hi5 hown hK hP 0 rfl rfl 13 (by decide) hq8 (fun _ h9 => h9) rfl dX5_arrive_63 ?_
      refine lv_iconst (v := 1) hx hb dX5_arrive_66 (by decide) ?_
      refine lv_iadd hx hb dX5_arrive_67 ?_
      refine lv_topi (fun x_13 ex_13 => ?_)
      replace hw := okN ex_13 hw
      clear ex_13
      refine va_put (D := (dC, dI)) (ci := 5) (v := .int x_13) (ty := .int) (C := RX5) (T := TX5) (N := 20) hx hb hts hi5 tyX5 tyX5_ok nmX5 hown hK hP hD hS 0 rfl rfl 13 (by decide) hq8 (fun _ h9 => h9) rfl (by decide +kernel) rfl rfl (Nat.le_of_ble_eq_true rfl) dX5_arrive_68 (fun H locs hP hD hS => ?_)
      have hP : va_P (dC, dI) vwCl (W_X5_arrive cyI cyJ cyO h_o a_o_howFar a_o_tones a_o_only a_o_fars a_o_cellAt a_o_ends a_o_seen a_o_begun o_last o_turnsLet o_slowsLet o_fuel o_glide x_13 o_weightSum o_toPass o_foundNumber o_foundWeight o_foundTurns o_foundSlowed o_cellAt o_ends) H := hP
      have hD : va_D A (W_X5_arrive cyI cyJ cyO h_o a_o_howFar a_o_tones a_o_only a_o_fars a_o_cellAt a_o_ends a_o_seen a_o_begun o_last o_turnsLet o_slowsLet o_fuel o_glide x_13 o_weightSum o_toPass o_foundNumber o_foundWeight o_foundTurns o_foundSlowed o_cellAt o_ends) := hD
      refine lv_aload_n hx hb dX5_arrive_71 rfl (lv_at hl 1 rfl) ?_
      refine lv_dup hx hb dX5_arrive_72 rfl ?_
      refine va_get (D := (dC, dI)) (ci := 5) (v := .long o_weightSum) (C := RX5) (T := TX5) (N := 20) hx hb hts hi5 hown hK hP 0 rfl rfl 14 (by decide) hq9 (fun _ h9 => h9) rfl dX5_arrive_73 ?_
      refine lv_iload hx hb dX5_arrive_76 (lv_at hl 0 rfl) ?_
      refine lv_i2l (v := x_10.toInt64) hx hb dX5_arrive_78 rfl ?_
      refine lv_ladd hx hb dX5_arrive_79 ?_
      refine lv_topl (fun x_14 ex_14 => ?_)
      replace hw := okN ex_14 hw
      clear ex_14
      refine va_put (D := (dC, dI)) (ci := 5) (v := .long x_14) (ty := .long) (C := RX5) (T := TX5) (N := 20) hx hb hts hi5 tyX5 tyX5_ok nmX5 hown hK hP hD hS 0 rfl rfl 14 (by decide) hq9 (fun _ h9 => h9) rfl (by decide +kernel) rfl rfl (Nat.le_of_ble_eq_true rfl) dX5_arrive_80 (fun H locs hP hD hS => ?_)
      have hP : va_P (dC, dI) vwCl (W_X5_arrive cyI cyJ cyO h_o a_o_howFar a_o_tones a_o_only a_o_fars a_o_cellAt a_o_ends a_o_seen a_o_begun o_last o_turnsLet o_slowsLet o_fuel o_glide x_13 x_14 o_toPass o_foundNumber o_foundWeight o_foundTurns o_foundSlowed o_cellAt o_ends) H := hP
      have hD : va_D A (W_X5_arrive cyI cyJ cyO h_o a_o_howFar a_o_tones a_o_only a_o_fars a_o_cellAt a_o_ends a_o_seen a_o_begun o_last o_turnsLet o_slowsLet o_fuel o_glide x_13 x_14 o_toPass o_foundNumber o_foundWeight o_foundTurns o_foundSlowed o_cellAt o_ends) := hD
      refine lv_iconst (v := 0) hx hb dX5_arrive_83 (by decide) ?_
      refine lv_istore (lv' := [(6, .int 0), (5, .int x_10), (0, .ref h_o), (1, .int x1), (2, .int x2), (3, .int x3), (4, .int x4)]) hx hb dX5_arrive_84 hl (by decide) rfl (fun ls hl => ?_)
      exact w86 FU x1 x_10 0 x_13 x_14 o_toPass o_foundWeight o_foundTurns o_foundSlowed o_ends _ _ hP hD hS _ (lv_sub hl [2, 3, 1, 0] rfl) hw
    · replace hw := okT hw c_12
      clear c_12
      refine lv_aload_n hx hb dX5_arrive_38 rfl (lv_at hl 1 rfl) ?_
      refine lv_bipush (v := (-2)) hx hb dX5_arrive_39 (by decide) ?_
      refine va_put (D := (dC, dI)) (ci := 5) (v := .int (-2)) (ty := .int) (C := RX5) (T := TX5) (N := 20) hx hb hts hi5 tyX5 tyX5_ok nmX5 hown hK hP hD hS 0 rfl rfl 15 (by decide) hq7 (fun _ h9 => h9) rfl (by decide +kernel) rfl rfl (Nat.le_of_ble_eq_true rfl) dX5_arrive_41 (fun H locs hP hD hS => ?_)
      have hP : va_P (dC, dI) vwCl (W_X5_arrive cyI cyJ cyO h_o a_o_howFar a_o_tones a_o_only a_o_fars a_o_cellAt a_o_ends a_o_seen a_o_begun o_last o_turnsLet o_slowsLet o_fuel o_glide o_count o_weightSum (-2) o_foundNumber o_foundWeight o_foundTurns o_foundSlowed o_cellAt o_ends) H := hP
      have hD : va_D A (W_X5_arrive cyI cyJ cyO h_o a_o_howFar a_o_tones a_o_only a_o_fars a_o_cellAt a_o_ends a_o_seen a_o_begun o_last o_turnsLet o_slowsLet o_fuel o_glide o_count o_weightSum (-2) o_foundNumber o_foundWeight o_foundTurns o_foundSlowed o_cellAt o_ends) := hD
      refine lv_aload_n hx hb dX5_arrive_44 rfl (lv_at hl 1 rfl) ?_
      refine lv_iload hx hb dX5_arrive_45 (lv_at hl 0 rfl) ?_
      refine va_put (D := (dC, dI)) (ci := 5) (v := .int x_10) (ty := .int) (C := RX5) (T := TX5) (N := 20) hx hb hts hi5 tyX5 tyX5_ok nmX5 hown hK hP hD hS 0 rfl rfl 17 (by decide) hq10 (fun _ h9 => h9) rfl (by decide +kernel) rfl rfl (Nat.le_of_ble_eq_true rfl) dX5_arrive_47 (fun H locs hP hD hS => ?_)
      have hP : va_P (dC, dI) vwCl (W_X5_arrive cyI cyJ cyO h_o a_o_howFar a_o_tones a_o_only a_o_fars a_o_cellAt a_o_ends a_o_seen a_o_begun o_last o_turnsLet o_slowsLet o_fuel o_glide o_count o_weightSum (-2) o_foundNumber x_10 o_foundTurns o_foundSlowed o_cellAt o_ends) H := hP
      have hD : va_D A (W_X5_arrive cyI cyJ cyO h_o a_o_howFar a_o_tones a_o_only a_o_fars a_o_cellAt a_o_ends a_o_seen a_o_begun o_last o_turnsLet o_slowsLet o_fuel o_glide o_count o_weightSum (-2) o_foundNumber x_10 o_foundTurns o_foundSlowed o_cellAt o_ends) := hD
      refine lv_aload_n hx hb dX5_arrive_50 rfl (lv_at hl 1 rfl) ?_
      refine lv_iload_n hx hb dX5_arrive_51 rfl (lv_at hl 3 rfl) ?_
      refine va_put (D := (dC, dI)) (ci := 5) (v := .int x2) (ty := .int) (C := RX5) (T := TX5) (N := 20) hx hb hts hi5 tyX5 tyX5_ok nmX5 hown hK hP hD hS 0 rfl rfl 18 (by decide) hq11 (fun _ h9 => h9) rfl (by decide +kernel) rfl rfl (Nat.le_of_ble_eq_true rfl) dX5_arrive_52 (fun H locs hP hD hS => ?_)
      have hP : va_P (dC, dI) vwCl (W_X5_arrive cyI cyJ cyO h_o a_o_howFar a_o_tones a_o_only a_o_fars a_o_cellAt a_o_ends a_o_seen a_o_begun o_last o_turnsLet o_slowsLet o_fuel o_glide o_count o_weightSum (-2) o_foundNumber x_10 x2 o_foundSlowed o_cellAt o_ends) H := hP
      have hD : va_D A (W_X5_arrive cyI cyJ cyO h_o a_o_howFar a_o_tones a_o_only a_o_fars a_o_cellAt a_o_ends a_o_seen a_o_begun o_last o_turnsLet o_slowsLet o_fuel o_glide o_count o_weightSum (-2) o_foundNumber x_10 x2 o_foundSlowed o_cellAt o_ends) := hD
      refine lv_aload_n hx hb dX5_arrive_55 rfl (lv_at hl 1 rfl) ?_
      refine lv_iload_n hx hb dX5_arrive_56 rfl (lv_at hl 4 rfl) ?_
      refine va_put (D := (dC, dI)) (ci := 5) (v := .int x3) (ty := .int) (C := RX5) (T := TX5) (N := 20) hx hb hts hi5 tyX5 tyX5_ok nmX5 hown hK hP hD hS 0 rfl rfl 19 (by decide) hq12 (fun _ h9 => h9) rfl (by decide +kernel) rfl rfl (Nat.le_of_ble_eq_true rfl) dX5_arrive_57 (fun H locs hP hD hS => ?_)
      have hP : va_P (dC, dI) vwCl (W_X5_arrive cyI cyJ cyO h_o a_o_howFar a_o_tones a_o_only a_o_fars a_o_cellAt a_o_ends a_o_seen a_o_begun o_last o_turnsLet o_slowsLet o_fuel o_glide o_count o_weightSum (-2) o_foundNumber x_10 x2 x3 o_cellAt o_ends) H := hP
      have hD : va_D A (W_X5_arrive cyI cyJ cyO h_o a_o_howFar a_o_tones a_o_only a_o_fars a_o_cellAt a_o_ends a_o_seen a_o_begun o_last o_turnsLet o_slowsLet o_fuel o_glide o_count o_weightSum (-2) o_foundNumber x_10 x2 x3 o_cellAt o_ends) := hD
      rw [hQ]
      exact W.vret hx hb hr (fun t ht hW => ⟨⟨(o_count, o_weightSum, (-2), x_10, x2, x3, o_ends), rfl, okS hw, by rw [ht]; exact hP, va_K.moved hW.alike hK, hD⟩, hS.F ht⟩) hS.2.2 dX5_arrive_60
  · replace hw := okF hw c_11
    clear c_11
    refine lv_aload_n hx hb dX5_arrive_20 rfl (lv_at hl 1 rfl) ?_
    refine lv_dup hx hb dX5_arrive_21 rfl ?_
    refine va_get (D := (dC, dI)) (ci := 5) (v := .int o_toPass) (C := RX5) (T := TX5) (N := 20) hx hb hts hi5 hown hK hP 0 rfl rfl 15 (by decide) hq7 (fun _ h9 => h9) rfl dX5_arrive_22 ?_
    refine lv_iconst (v := 1) hx hb dX5_arrive_25 (by decide) ?_
    refine lv_isub hx hb dX5_arrive_26 ?_
    refine lv_topi (fun x_15 ex_15 => ?_)
    replace hw := okN ex_15 hw
    clear ex_15
    refine va_put (D := (dC, dI)) (ci := 5) (v := .int x_15) (ty := .int) (C := RX5) (T := TX5) (N := 20) hx hb hts hi5 tyX5 tyX5_ok nmX5 hown hK hP hD hS 0 rfl rfl 15 (by decide) hq7 (fun _ h9 => h9) rfl (by decide +kernel) rfl rfl (Nat.le_of_ble_eq_true rfl) dX5_arrive_27 (fun H locs hP hD hS => ?_)
    have hP : va_P (dC, dI) vwCl (W_X5_arrive cyI cyJ cyO h_o a_o_howFar a_o_tones a_o_only a_o_fars a_o_cellAt a_o_ends a_o_seen a_o_begun o_last o_turnsLet o_slowsLet o_fuel o_glide o_count o_weightSum x_15 o_foundNumber o_foundWeight o_foundTurns o_foundSlowed o_cellAt o_ends) H := hP
    have hD : va_D A (W_X5_arrive cyI cyJ cyO h_o a_o_howFar a_o_tones a_o_only a_o_fars a_o_cellAt a_o_ends a_o_seen a_o_begun o_last o_turnsLet o_slowsLet o_fuel o_glide o_count o_weightSum x_15 o_foundNumber o_foundWeight o_foundTurns o_foundSlowed o_cellAt o_ends) := hD
    rw [hQ]
    exact W.vret hx hb hr (fun t ht hW => ⟨⟨(o_count, o_weightSum, x_15, o_foundWeight, o_foundTurns, o_foundSlowed, o_ends), rfl, okS hw, by rw [ht]; exact hP, va_K.moved hW.alike hK, hD⟩, hS.F ht⟩) hS.2.2 dX5_arrive_30
/-! ===== X5_fly, X5_choose ===== -/
theorem dX5_fly_0 : decode cX5_fly 0 = .ok (.iload 7, 2) := by decide +kernel
theorem dX5_fly_2 : decode cX5_fly 2 = .ok (.iload_n 3, 1) := by decide +kernel
theorem dX5_fly_3 : decode cX5_fly 3 = .ok (.iload_n 3, 1) := by decide +kernel
theorem dX5_fly_4 : decode cX5_fly 4 = .ok (.imul, 1) := by decide +kernel
theorem dX5_fly_5 : decode cX5_fly 5 = .ok (.isub, 1) := by decide +kernel
theorem dX5_fly_6 : decode cX5_fly 6 = .ok (.istore 8, 2) := by decide +kernel
theorem dX5_fly_8 : decode cX5_fly 8 = .ok (.iload_n 1, 1) := by decide +kernel
theorem dX5_fly_9 : decode cX5_fly 9 = .ok (.ifCond .lt 22, 3) := by decide +kernel
theorem dX5_fly_12 : decode cX5_fly 12 = .ok (.iload_n 1, 1) := by decide +kernel
theorem dX5_fly_13 : decode cX5_fly 13 = .ok (.aload_n 0, 1) := by decide +kernel
theorem dX5_fly_14 : decode cX5_fly 14 = .ok (.getfield 24, 3) := by decide +kernel
theorem dX5_fly_17 : decode cX5_fly 17 = .ok (.if_icmp .ge 14, 3) := by decide +kernel
theorem dX5_fly_20 : decode cX5_fly 20 = .ok (.iload_n 1, 1) := by decide +kernel
theorem dX5_fly_21 : decode cX5_fly 21 = .ok (.bipush 6, 2) := by decide +kernel
theorem dX5_fly_23 : decode cX5_fly 23 = .ok (.if_icmp .ge 8, 3) := by decide +kernel
theorem dX5_fly_26 : decode cX5_fly 26 = .ok (.iload 8, 2) := by decide +kernel
theorem dX5_fly_28 : decode cX5_fly 28 = .ok (.ifCond .ge 4, 3) := by decide +kernel
theorem dX5_fly_31 : decode cX5_fly 31 = .ok (.return_, 1) := by decide +kernel
theorem dX5_fly_32 : decode cX5_fly 32 = .ok (.aload_n 0, 1) := by decide +kernel
theorem dX5_fly_33 : decode cX5_fly 33 = .ok (.getfield 41, 3) := by decide +kernel
theorem dX5_fly_36 : decode cX5_fly 36 = .ok (.iload_n 1, 1) := by decide +kernel
theorem dX5_fly_37 : decode cX5_fly 37 = .ok (.iaload, 1) := by decide +kernel
theorem dX5_fly_38 : decode cX5_fly 38 = .ok (.istore 9, 2) := by decide +kernel
theorem dX5_fly_40 : decode cX5_fly 40 = .ok (.iload 9, 2) := by decide +kernel
theorem dX5_fly_42 : decode cX5_fly 42 = .ok (.iload_n 2, 1) := by decide +kernel
theorem dX5_fly_43 : decode cX5_fly 43 = .ok (.iload_n 3, 1) := by decide +kernel
theorem dX5_fly_44 : decode cX5_fly 44 = .ok (.invokestatic 111, 3) := by decide +kernel
theorem dX5_fly_47 : decode cX5_fly 47 = .ok (.istore 10, 2) := by decide +kernel
theorem dX5_fly_49 : decode cX5_fly 49 = .ok (.iload 10, 2) := by decide +kernel
theorem dX5_fly_51 : decode cX5_fly 51 = .ok (.iconst (-1), 1) := by decide +kernel
theorem dX5_fly_52 : decode cX5_fly 52 = .ok (.if_icmp .eq 33, 3) := by decide +kernel
theorem dX5_fly_55 : decode cX5_fly 55 = .ok (.iload 9, 2) := by decide +kernel
theorem dX5_fly_57 : decode cX5_fly 57 = .ok (.invokestatic 96, 3) := by decide +kernel
theorem dX5_fly_60 : decode cX5_fly 60 = .ok (.ifCond .eq 25, 3) := by decide +kernel
theorem dX5_fly_63 : decode cX5_fly 63 = .ok (.aload_n 0, 1) := by decide +kernel
theorem dX5_fly_64 : decode cX5_fly 64 = .ok (.iload_n 1, 1) := by decide +kernel
theorem dX5_fly_65 : decode cX5_fly 65 = .ok (.iload 9, 2) := by decide +kernel
theorem dX5_fly_67 : decode cX5_fly 67 = .ok (.invokevirtual 115, 3) := by decide +kernel
theorem dX5_fly_70 : decode cX5_fly 70 = .ok (.ifCond .eq 15, 3) := by decide +kernel
theorem dX5_fly_73 : decode cX5_fly 73 = .ok (.aload_n 0, 1) := by decide +kernel
theorem dX5_fly_74 : decode cX5_fly 74 = .ok (.iload_n 1, 1) := by decide +kernel
theorem dX5_fly_75 : decode cX5_fly 75 = .ok (.iconst 1, 1) := by decide +kernel
theorem dX5_fly_76 : decode cX5_fly 76 = .ok (.iadd, 1) := by decide +kernel
theorem dX5_fly_77 : decode cX5_fly 77 = .ok (.iload 10, 2) := by decide +kernel
theorem dX5_fly_79 : decode cX5_fly 79 = .ok (.invokevirtual 115, 3) := by decide +kernel
theorem dX5_fly_82 : decode cX5_fly 82 = .ok (.ifCond .ne 4, 3) := by decide +kernel
theorem dX5_fly_85 : decode cX5_fly 85 = .ok (.return_, 1) := by decide +kernel
theorem dX5_fly_86 : decode cX5_fly 86 = .ok (.iload 6, 2) := by decide +kernel
theorem dX5_fly_88 : decode cX5_fly 88 = .ok (.aload_n 0, 1) := by decide +kernel
theorem dX5_fly_89 : decode cX5_fly 89 = .ok (.iload_n 1, 1) := by decide +kernel
theorem dX5_fly_90 : decode cX5_fly 90 = .ok (.iconst 1, 1) := by decide +kernel
theorem dX5_fly_91 : decode cX5_fly 91 = .ok (.iadd, 1) := by decide +kernel
theorem dX5_fly_92 : decode cX5_fly 92 = .ok (.aload_n 0, 1) := by decide +kernel
theorem dX5_fly_93 : decode cX5_fly 93 = .ok (.getfield 21, 3) := by decide +kernel
theorem dX5_fly_96 : decode cX5_fly 96 = .ok (.iload 9, 2) := by decide +kernel
theorem dX5_fly_98 : decode cX5_fly 98 = .ok (.iaload, 1) := by decide +kernel
theorem dX5_fly_99 : decode cX5_fly 99 = .ok (.aload_n 0, 1) := by decide +kernel
theorem dX5_fly_100 : decode cX5_fly 100 = .ok (.getfield 21, 3) := by decide +kernel
theorem dX5_fly_103 : decode cX5_fly 103 = .ok (.iload 10, 2) := by decide +kernel
theorem dX5_fly_105 : decode cX5_fly 105 = .ok (.iaload, 1) := by decide +kernel
theorem dX5_fly_106 : decode cX5_fly 106 = .ok (.invokevirtual 119, 3) := by decide +kernel
theorem dX5_fly_109 : decode cX5_fly 109 = .ok (.imul, 1) := by decide +kernel
theorem dX5_fly_110 : decode cX5_fly 110 = .ok (.istore 11, 2) := by decide +kernel
theorem dX5_fly_112 : decode cX5_fly 112 = .ok (.iload 11, 2) := by decide +kernel
theorem dX5_fly_114 : decode cX5_fly 114 = .ok (.ifCond .ne 4, 3) := by decide +kernel
theorem dX5_fly_117 : decode cX5_fly 117 = .ok (.return_, 1) := by decide +kernel
theorem dX5_fly_118 : decode cX5_fly 118 = .ok (.aload_n 0, 1) := by decide +kernel
theorem dX5_fly_119 : decode cX5_fly 119 = .ok (.getfield 41, 3) := by decide +kernel
theorem dX5_fly_122 : decode cX5_fly 122 = .ok (.iload_n 1, 1) := by decide +kernel
theorem dX5_fly_123 : decode cX5_fly 123 = .ok (.iconst 1, 1) := by decide +kernel
theorem dX5_fly_124 : decode cX5_fly 124 = .ok (.iadd, 1) := by decide +kernel
theorem dX5_fly_125 : decode cX5_fly 125 = .ok (.iload 10, 2) := by decide +kernel
theorem dX5_fly_127 : decode cX5_fly 127 = .ok (.iastore, 1) := by decide +kernel
theorem dX5_fly_128 : decode cX5_fly 128 = .ok (.aload_n 0, 1) := by decide +kernel
theorem dX5_fly_129 : decode cX5_fly 129 = .ok (.getfield 54, 3) := by decide +kernel
theorem dX5_fly_132 : decode cX5_fly 132 = .ok (.istore 12, 2) := by decide +kernel
theorem dX5_fly_134 : decode cX5_fly 134 = .ok (.iload_n 1, 1) := by decide +kernel
theorem dX5_fly_135 : decode cX5_fly 135 = .ok (.iconst 1, 1) := by decide +kernel
theorem dX5_fly_136 : decode cX5_fly 136 = .ok (.iadd, 1) := by decide +kernel
theorem dX5_fly_137 : decode cX5_fly 137 = .ok (.aload_n 0, 1) := by decide +kernel
theorem dX5_fly_138 : decode cX5_fly 138 = .ok (.getfield 24, 3) := by decide +kernel
theorem dX5_fly_141 : decode cX5_fly 141 = .ok (.if_icmp .ne 17, 3) := by decide +kernel
theorem dX5_fly_144 : decode cX5_fly 144 = .ok (.aload_n 0, 1) := by decide +kernel
theorem dX5_fly_145 : decode cX5_fly 145 = .ok (.iload_n 2, 1) := by decide +kernel
theorem dX5_fly_146 : decode cX5_fly 146 = .ok (.iload 4, 2) := by decide +kernel
theorem dX5_fly_148 : decode cX5_fly 148 = .ok (.iload 5, 2) := by decide +kernel
theorem dX5_fly_150 : decode cX5_fly 150 = .ok (.iload 11, 2) := by decide +kernel
theorem dX5_fly_152 : decode cX5_fly 152 = .ok (.invokevirtual 122, 3) := by decide +kernel
theorem dX5_fly_155 : decode cX5_fly 155 = .ok (.goto 20, 3) := by decide +kernel
theorem dX5_fly_158 : decode cX5_fly 158 = .ok (.aload_n 0, 1) := by decide +kernel
theorem dX5_fly_159 : decode cX5_fly 159 = .ok (.iload_n 1, 1) := by decide +kernel
theorem dX5_fly_160 : decode cX5_fly 160 = .ok (.iconst 1, 1) := by decide +kernel
theorem dX5_fly_161 : decode cX5_fly 161 = .ok (.iadd, 1) := by decide +kernel
theorem dX5_fly_162 : decode cX5_fly 162 = .ok (.iload_n 2, 1) := by decide +kernel
theorem dX5_fly_163 : decode cX5_fly 163 = .ok (.iload_n 3, 1) := by decide +kernel
theorem dX5_fly_164 : decode cX5_fly 164 = .ok (.iload 4, 2) := by decide +kernel
theorem dX5_fly_166 : decode cX5_fly 166 = .ok (.iload 5, 2) := by decide +kernel
theorem dX5_fly_168 : decode cX5_fly 168 = .ok (.iload 11, 2) := by decide +kernel
theorem dX5_fly_170 : decode cX5_fly 170 = .ok (.iload 8, 2) := by decide +kernel
theorem dX5_fly_172 : decode cX5_fly 172 = .ok (.invokevirtual 126, 3) := by decide +kernel
theorem dX5_fly_175 : decode cX5_fly 175 = .ok (.aload_n 0, 1) := by decide +kernel
theorem dX5_fly_176 : decode cX5_fly 176 = .ok (.getfield 54, 3) := by decide +kernel
theorem dX5_fly_179 : decode cX5_fly 179 = .ok (.iload 12, 2) := by decide +kernel
theorem dX5_fly_181 : decode cX5_fly 181 = .ok (.if_icmp .le 12, 3) := by decide +kernel
theorem dX5_fly_184 : decode cX5_fly 184 = .ok (.aload_n 0, 1) := by decide +kernel
theorem dX5_fly_185 : decode cX5_fly 185 = .ok (.iload_n 1, 1) := by decide +kernel
theorem dX5_fly_186 : decode cX5_fly 186 = .ok (.iconst 1, 1) := by decide +kernel
theorem dX5_fly_187 : decode cX5_fly 187 = .ok (.iadd, 1) := by decide +kernel
theorem dX5_fly_188 : decode cX5_fly 188 = .ok (.iload 10, 2) := by decide +kernel
theorem dX5_fly_190 : decode cX5_fly 190 = .ok (.invokevirtual 107, 3) := by decide +kernel
theorem dX5_fly_193 : decode cX5_fly 193 = .ok (.return_, 1) := by decide +kernel
theorem dX5_choose_0 : decode cX5_choose 0 = .ok (.aload_n 0, 1) := by decide +kernel
theorem dX5_choose_1 : decode cX5_choose 1 = .ok (.getfield 31, 3) := by decide +kernel
theorem dX5_choose_4 : decode cX5_choose 4 = .ok (.ifCond .eq 17, 3) := by decide +kernel
theorem dX5_choose_7 : decode cX5_choose 7 = .ok (.iload 5, 2) := by decide +kernel
theorem dX5_choose_9 : decode cX5_choose 9 = .ok (.ifCond .ne 12, 3) := by decide +kernel
theorem dX5_choose_12 : decode cX5_choose 12 = .ok (.iload_n 3, 1) := by decide +kernel
theorem dX5_choose_13 : decode cX5_choose 13 = .ok (.iconst 1, 1) := by decide +kernel
theorem dX5_choose_14 : decode cX5_choose 14 = .ok (.if_icmp .le 7, 3) := by decide +kernel
theorem dX5_choose_17 : decode cX5_choose 17 = .ok (.iconst 1, 1) := by decide +kernel
theorem dX5_choose_18 : decode cX5_choose 18 = .ok (.goto 4, 3) := by decide +kernel
theorem dX5_choose_21 : decode cX5_choose 21 = .ok (.iconst 0, 1) := by decide +kernel
theorem dX5_choose_22 : decode cX5_choose 22 = .ok (.istore 8, 2) := by decide +kernel
theorem dX5_choose_24 : decode cX5_choose 24 = .ok (.aload_n 0, 1) := by decide +kernel
theorem dX5_choose_25 : decode cX5_choose 25 = .ok (.iload_n 1, 1) := by decide +kernel
theorem dX5_choose_26 : decode cX5_choose 26 = .ok (.iload_n 2, 1) := by decide +kernel
theorem dX5_choose_27 : decode cX5_choose 27 = .ok (.iload_n 3, 1) := by decide +kernel
theorem dX5_choose_28 : decode cX5_choose 28 = .ok (.iload 4, 2) := by decide +kernel
theorem dX5_choose_30 : decode cX5_choose 30 = .ok (.iload 5, 2) := by decide +kernel
theorem dX5_choose_32 : decode cX5_choose 32 = .ok (.iload 6, 2) := by decide +kernel
theorem dX5_choose_34 : decode cX5_choose 34 = .ok (.iload 7, 2) := by decide +kernel
theorem dX5_choose_36 : decode cX5_choose 36 = .ok (.invokevirtual 103, 3) := by decide +kernel
theorem dX5_choose_39 : decode cX5_choose 39 = .ok (.iload 8, 2) := by decide +kernel
theorem dX5_choose_41 : decode cX5_choose 41 = .ok (.ifCond .eq 26, 3) := by decide +kernel
theorem dX5_choose_44 : decode cX5_choose 44 = .ok (.aload_n 0, 1) := by decide +kernel
theorem dX5_choose_45 : decode cX5_choose 45 = .ok (.invokevirtual 129, 3) := by decide +kernel
theorem dX5_choose_48 : decode cX5_choose 48 = .ok (.ifCond .ne 19, 3) := by decide +kernel
theorem dX5_choose_51 : decode cX5_choose 51 = .ok (.aload_n 0, 1) := by decide +kernel
theorem dX5_choose_52 : decode cX5_choose 52 = .ok (.iload_n 1, 1) := by decide +kernel
theorem dX5_choose_53 : decode cX5_choose 53 = .ok (.iload_n 2, 1) := by decide +kernel
theorem dX5_choose_54 : decode cX5_choose 54 = .ok (.iload_n 3, 1) := by decide +kernel
theorem dX5_choose_55 : decode cX5_choose 55 = .ok (.iconst 1, 1) := by decide +kernel
theorem dX5_choose_56 : decode cX5_choose 56 = .ok (.isub, 1) := by decide +kernel
theorem dX5_choose_57 : decode cX5_choose 57 = .ok (.iload 4, 2) := by decide +kernel
theorem dX5_choose_59 : decode cX5_choose 59 = .ok (.iconst 1, 1) := by decide +kernel
theorem dX5_choose_60 : decode cX5_choose 60 = .ok (.iload 6, 2) := by decide +kernel
theorem dX5_choose_62 : decode cX5_choose 62 = .ok (.iload 7, 2) := by decide +kernel
theorem dX5_choose_64 : decode cX5_choose 64 = .ok (.invokevirtual 103, 3) := by decide +kernel
theorem dX5_choose_67 : decode cX5_choose 67 = .ok (.iload 4, 2) := by decide +kernel
theorem dX5_choose_69 : decode cX5_choose 69 = .ok (.aload_n 0, 1) := by decide +kernel
theorem dX5_choose_70 : decode cX5_choose 70 = .ok (.getfield 28, 3) := by decide +kernel
theorem dX5_choose_73 : decode cX5_choose 73 = .ok (.if_icmp .lt 4, 3) := by decide +kernel
theorem dX5_choose_76 : decode cX5_choose 76 = .ok (.return_, 1) := by decide +kernel
theorem dX5_choose_77 : decode cX5_choose 77 = .ok (.iconst 0, 1) := by decide +kernel
theorem dX5_choose_78 : decode cX5_choose 78 = .ok (.istore 9, 2) := by decide +kernel
theorem dX5_choose_80 : decode cX5_choose 80 = .ok (.iload 9, 2) := by decide +kernel
theorem dX5_choose_82 : decode cX5_choose 82 = .ok (.bipush 8, 2) := by decide +kernel
theorem dX5_choose_84 : decode cX5_choose 84 = .ok (.if_icmp .ge 74, 3) := by decide +kernel
theorem dX5_choose_87 : decode cX5_choose 87 = .ok (.aload_n 0, 1) := by decide +kernel
theorem dX5_choose_88 : decode cX5_choose 88 = .ok (.invokevirtual 129, 3) := by decide +kernel
theorem dX5_choose_91 : decode cX5_choose 91 = .ok (.ifCond .ne 67, 3) := by decide +kernel
theorem dX5_choose_94 : decode cX5_choose 94 = .ok (.iload 9, 2) := by decide +kernel
theorem dX5_choose_96 : decode cX5_choose 96 = .ok (.iload_n 2, 1) := by decide +kernel
theorem dX5_choose_97 : decode cX5_choose 97 = .ok (.if_icmp .ne 6, 3) := by decide +kernel
theorem dX5_choose_100 : decode cX5_choose 100 = .ok (.goto 52, 3) := by decide +kernel
theorem dX5_choose_103 : decode cX5_choose 103 = .ok (.aload_n 0, 1) := by decide +kernel
theorem dX5_choose_104 : decode cX5_choose 104 = .ok (.iload_n 1, 1) := by decide +kernel
theorem dX5_choose_105 : decode cX5_choose 105 = .ok (.iload 9, 2) := by decide +kernel
theorem dX5_choose_107 : decode cX5_choose 107 = .ok (.iload_n 3, 1) := by decide +kernel
theorem dX5_choose_108 : decode cX5_choose 108 = .ok (.iload 4, 2) := by decide +kernel
theorem dX5_choose_110 : decode cX5_choose 110 = .ok (.iconst 1, 1) := by decide +kernel
theorem dX5_choose_111 : decode cX5_choose 111 = .ok (.iadd, 1) := by decide +kernel
theorem dX5_choose_112 : decode cX5_choose 112 = .ok (.iload 5, 2) := by decide +kernel
theorem dX5_choose_114 : decode cX5_choose 114 = .ok (.iload 6, 2) := by decide +kernel
theorem dX5_choose_116 : decode cX5_choose 116 = .ok (.iload 7, 2) := by decide +kernel
theorem dX5_choose_118 : decode cX5_choose 118 = .ok (.invokevirtual 103, 3) := by decide +kernel
theorem dX5_choose_121 : decode cX5_choose 121 = .ok (.iload 8, 2) := by decide +kernel
theorem dX5_choose_123 : decode cX5_choose 123 = .ok (.ifCond .eq 29, 3) := by decide +kernel
theorem dX5_choose_126 : decode cX5_choose 126 = .ok (.aload_n 0, 1) := by decide +kernel
theorem dX5_choose_127 : decode cX5_choose 127 = .ok (.invokevirtual 129, 3) := by decide +kernel
theorem dX5_choose_130 : decode cX5_choose 130 = .ok (.ifCond .ne 22, 3) := by decide +kernel
theorem dX5_choose_133 : decode cX5_choose 133 = .ok (.aload_n 0, 1) := by decide +kernel
theorem dX5_choose_134 : decode cX5_choose 134 = .ok (.iload_n 1, 1) := by decide +kernel
theorem dX5_choose_135 : decode cX5_choose 135 = .ok (.iload 9, 2) := by decide +kernel
theorem dX5_choose_137 : decode cX5_choose 137 = .ok (.iload_n 3, 1) := by decide +kernel
theorem dX5_choose_138 : decode cX5_choose 138 = .ok (.iconst 1, 1) := by decide +kernel
theorem dX5_choose_139 : decode cX5_choose 139 = .ok (.isub, 1) := by decide +kernel
theorem dX5_choose_140 : decode cX5_choose 140 = .ok (.iload 4, 2) := by decide +kernel
theorem dX5_choose_142 : decode cX5_choose 142 = .ok (.iconst 1, 1) := by decide +kernel
theorem dX5_choose_143 : decode cX5_choose 143 = .ok (.iadd, 1) := by decide +kernel
theorem dX5_choose_144 : decode cX5_choose 144 = .ok (.iconst 1, 1) := by decide +kernel
theorem dX5_choose_145 : decode cX5_choose 145 = .ok (.iload 6, 2) := by decide +kernel
theorem dX5_choose_147 : decode cX5_choose 147 = .ok (.iload 7, 2) := by decide +kernel
theorem dX5_choose_149 : decode cX5_choose 149 = .ok (.invokevirtual 103, 3) := by decide +kernel
theorem dX5_choose_152 : decode cX5_choose 152 = .ok (.iinc 9 1, 3) := by decide +kernel
theorem dX5_choose_155 : decode cX5_choose 155 = .ok (.goto (-75), 3) := by decide +kernel
theorem dX5_choose_158 : decode cX5_choose 158 = .ok (.return_, 1) := by decide +kernel
abbrev W_X5_fly (cyI cyJ cyO : ClassId) (h_o a_o_howFar a_o_tones a_o_only a_o_fars a_o_cellAt a_o_ends a_o_seen a_o_begun : Nat) (o_last : Int32) (o_turnsLet : Int32) (o_slowsLet : Int32) (o_fuel : Int32) (o_glide : Int32) (o_count : Int32) (o_weightSum : Int64) (o_toPass : Int32) (o_foundNumber : Int32) (o_foundWeight : Int32) (o_foundTurns : Int32) (o_foundSlowed : Int32) (o_howFar : Nat → Int32) (o_tones : Nat → Int32) (o_only : Nat → Int32) (o_fars : Nat → Int32) (o_cellAt : Nat → Int32) (o_ends : Nat → Int64) (o_seen : Nat → Int32) : va_W := [(h_o, .inr (5, [.ref a_o_howFar, .ref a_o_tones, .ref a_o_only, .ref a_o_fars, .int o_last, .int o_turnsLet, .int o_slowsLet, .int o_fuel, .int o_glide, .ref a_o_cellAt, .ref a_o_ends, .ref a_o_seen, .ref a_o_begun, .int o_count, .long o_weightSum, .int o_toPass, .int o_foundNumber, .int o_foundWeight, .int o_foundTurns, .int o_foundSlowed])), (a_o_howFar, .inl (cyI, 7, .inl o_howFar)), (a_o_tones, .inl (cyI, 7, .inl o_tones)), (a_o_only, .inl (cyI, 7, .inl o_only)), (a_o_fars, .inl (cyI, 100, .inl o_fars)), (a_o_cellAt, .inl (cyI, 7, .inl o_cellAt)), (a_o_ends, .inl (cyJ, 100, .inr (.inl o_ends))), (a_o_seen, .inl (cyI, 70, .inl o_seen))]
abbrev W_X5_choose (cyI cyJ cyO : ClassId) (h_o a_o_howFar a_o_tones a_o_only a_o_fars a_o_cellAt a_o_ends a_o_seen a_o_begun : Nat) (o_last : Int32) (o_turnsLet : Int32) (o_slowsLet : Int32) (o_fuel : Int32) (o_glide : Int32) (o_count : Int32) (o_weightSum : Int64) (o_toPass : Int32) (o_foundNumber : Int32) (o_foundWeight : Int32) (o_foundTurns : Int32) (o_foundSlowed : Int32) (o_howFar : Nat → Int32) (o_tones : Nat → Int32) (o_only : Nat → Int32) (o_fars : Nat → Int32) (o_cellAt : Nat → Int32) (o_ends : Nat → Int64) (o_seen : Nat → Int32) : va_W := [(h_o, .inr (5, [.ref a_o_howFar, .ref a_o_tones, .ref a_o_only, .ref a_o_fars, .int o_last, .int o_turnsLet, .int o_slowsLet, .int o_fuel, .int o_glide, .ref a_o_cellAt, .ref a_o_ends, .ref a_o_seen, .ref a_o_begun, .int o_count, .long o_weightSum, .int o_toPass, .int o_foundNumber, .int o_foundWeight, .int o_foundTurns, .int o_foundSlowed])), (a_o_howFar, .inl (cyI, 7, .inl o_howFar)), (a_o_tones, .inl (cyI, 7, .inl o_tones)), (a_o_only, .inl (cyI, 7, .inl o_only)), (a_o_fars, .inl (cyI, 100, .inl o_fars)), (a_o_cellAt, .inl (cyI, 7, .inl o_cellAt)), (a_o_ends, .inl (cyJ, 100, .inr (.inl o_ends))), (a_o_seen, .inl (cyI, 70, .inl o_seen))]
def f_X5_choose_B152 (kf : Int32 → Int32 → Int32 → Int32 → Int32 → Int32 → Int32 → Int32 → Int32 → Int32 → Int32 → Int32 → Int64 → Int32 → Int32 → Int32 → Int32 → (Nat → Int32) → (Nat → Int32) → (Nat → Int32) → (Nat → Int32) → (Nat → Int32) → (Nat → Int64) → (Nat → Int32) → Option (Int32 × Int64 × Int32 × Int32 × Int32 × Int32 × (Nat → Int32) × (Nat → Int64) × (Nat → Int32))) (k80 : Int32 → Int32 → Int32 → Int32 → Int32 → Int32 → Int32 → Int32 → Int32 → Int32 → Int32 → Int32 → Int32 → Int32 → Int64 → Int32 → Int32 → Int32 → Int32 → (Nat → Int32) → (Nat → Int32) → (Nat → Int32) → (Nat → Int32) → (Nat → Int32) → (Nat → Int64) → (Nat → Int32) → Option (Int32 × Int64 × Int32 × Int32 × Int32 × Int32 × (Nat → Int32) × (Nat → Int64) × (Nat → Int32))) (v1 : Int32) (v2 : Int32) (v3 : Int32) (v4 : Int32) (v5 : Int32) (v6 : Int32) (v7 : Int32) (v8 : Int32) (v9 : Int32) (o_last : Int32) (o_turnsLet : Int32) (o_slowsLet : Int32) (o_glide : Int32) (o_count : Int32) (o_weightSum : Int64) (o_toPass : Int32) (o_foundWeight : Int32) (o_foundTurns : Int32) (o_foundSlowed : Int32) (o_howFar : Nat → Int32) (o_tones : Nat → Int32) (o_only : Nat → Int32) (o_fars : Nat → Int32) (o_cellAt : Nat → Int32) (o_ends : Nat → Int64) (o_seen : Nat → Int32) : Option (Int32 × Int64 × Int32 × Int32 × Int32 × Int32 × (Nat → Int32) × (Nat → Int64) × (Nat → Int32)) :=
  nm (v9 + 1) fun x_1 =>
  k80 v1 v2 v3 v4 v5 v6 v7 v8 x_1 o_last o_turnsLet o_slowsLet o_glide o_count o_weightSum o_toPass o_foundWeight o_foundTurns o_foundSlowed o_howFar o_tones o_only o_fars o_cellAt o_ends o_seen
def f_X5_choose_L80b (kf : Int32 → Int32 → Int32 → Int32 → Int32 → Int32 → Int32 → Int32 → Int32 → Int32 → Int32 → Int32 → Int64 → Int32 → Int32 → Int32 → Int32 → (Nat → Int32) → (Nat → Int32) → (Nat → Int32) → (Nat → Int32) → (Nat → Int32) → (Nat → Int64) → (Nat → Int32) → Option (Int32 × Int64 × Int32 × Int32 × Int32 × Int32 × (Nat → Int32) × (Nat → Int64) × (Nat → Int32))) (k80 : Int32 → Int32 → Int32 → Int32 → Int32 → Int32 → Int32 → Int32 → Int32 → Int32 → Int32 → Int32 → Int32 → Int32 → Int64 → Int32 → Int32 → Int32 → Int32 → (Nat → Int32) → (Nat → Int32) → (Nat → Int32) → (Nat → Int32) → (Nat → Int32) → (Nat → Int64) → (Nat → Int32) → Option (Int32 × Int64 × Int32 × Int32 × Int32 × Int32 × (Nat → Int32) × (Nat → Int64) × (Nat → Int32))) (v1 : Int32) (v2 : Int32) (v3 : Int32) (v4 : Int32) (v5 : Int32) (v6 : Int32) (v7 : Int32) (v8 : Int32) (v9 : Int32) (o_last : Int32) (o_turnsLet : Int32) (o_slowsLet : Int32) (o_glide : Int32) (o_count : Int32) (o_weightSum : Int64) (o_toPass : Int32) (o_foundWeight : Int32) (o_foundTurns : Int32) (o_foundSlowed : Int32) (o_howFar : Nat → Int32) (o_tones : Nat → Int32) (o_only : Nat → Int32) (o_fars : Nat → Int32) (o_cellAt : Nat → Int32) (o_ends : Nat → Int64) (o_seen : Nat → Int32) : Option (Int32 × Int64 × Int32 × Int32 × Int32 × Int32 × (Nat → Int32) × (Nat → Int64) × (Nat → Int32)) :=
  if 8 ≤ v9 then
    some (o_count, o_weightSum, o_toPass, o_foundWeight, o_foundTurns, o_foundSlowed, o_cellAt, o_ends, o_seen)
  else
    bd1 (f_X5_isFound o_toPass) fun r_2 =>
    if r_2 = 0 then
      if v9 = v2 then
        f_X5_choose_B152 kf k80 v1 v2 v3 v4 v5 v6 v7 v8 v9 o_last o_turnsLet o_slowsLet o_glide o_count o_weightSum o_toPass o_foundWeight o_foundTurns o_foundSlowed o_howFar o_tones o_only o_fars o_cellAt o_ends o_seen
      else
        bd9 (kf v1 v9 v3 (v4 + 1) v5 v6 v7 o_last o_turnsLet o_slowsLet o_glide o_count o_weightSum o_toPass o_foundWeight o_foundTurns o_foundSlowed o_howFar o_tones o_only o_fars o_cellAt o_ends o_seen) fun w_3 w_4 w_5 w_6 w_7 w_8 w_9 w_10 w_11 =>
        if v8 = 0 then
          f_X5_choose_B152 kf k80 v1 v2 v3 v4 v5 v6 v7 v8 v9 o_last o_turnsLet o_slowsLet o_glide w_3 w_4 w_5 w_6 w_7 w_8 o_howFar o_tones o_only o_fars w_9 w_10 w_11
        else
          bd1 (f_X5_isFound w_5) fun r_12 =>
          if r_12 = 0 then
            bd9 (kf v1 v9 (v3 - 1) (v4 + 1) 1 v6 v7 o_last o_turnsLet o_slowsLet o_glide w_3 w_4 w_5 w_6 w_7 w_8 o_howFar o_tones o_only o_fars w_9 w_10 w_11) fun w_13 w_14 w_15 w_16 w_17 w_18 w_19 w_20 w_21 =>
            f_X5_choose_B152 kf k80 v1 v2 v3 v4 v5 v6 v7 v8 v9 o_last o_turnsLet o_slowsLet o_glide w_13 w_14 w_15 w_16 w_17 w_18 o_howFar o_tones o_only o_fars w_19 w_20 w_21
          else
            f_X5_choose_B152 kf k80 v1 v2 v3 v4 v5 v6 v7 v8 v9 o_last o_turnsLet o_slowsLet o_glide w_3 w_4 w_5 w_6 w_7 w_8 o_howFar o_tones o_only o_fars w_9 w_10 w_11
    else
      some (o_count, o_weightSum, o_toPass, o_foundWeight, o_foundTurns, o_foundSlowed, o_cellAt, o_ends, o_seen)
def f_X5_choose_L80 (kf : Int32 → Int32 → Int32 → Int32 → Int32 → Int32 → Int32 → Int32 → Int32 → Int32 → Int32 → Int32 → Int64 → Int32 → Int32 → Int32 → Int32 → (Nat → Int32) → (Nat → Int32) → (Nat → Int32) → (Nat → Int32) → (Nat → Int32) → (Nat → Int64) → (Nat → Int32) → Option (Int32 × Int64 × Int32 × Int32 × Int32 × Int32 × (Nat → Int32) × (Nat → Int64) × (Nat → Int32))) : Nat → Int32 → Int32 → Int32 → Int32 → Int32 → Int32 → Int32 → Int32 → Int32 → Int32 → Int32 → Int32 → Int32 → Int32 → Int64 → Int32 → Int32 → Int32 → Int32 → (Nat → Int32) → (Nat → Int32) → (Nat → Int32) → (Nat → Int32) → (Nat → Int32) → (Nat → Int64) → (Nat → Int32) → Option (Int32 × Int64 × Int32 × Int32 × Int32 × Int32 × (Nat → Int32) × (Nat → Int64) × (Nat → Int32))
  | 0 => fun _ _ _ _ _ _ _ _ _ _ _ _ _ _ _ _ _ _ _ _ _ _ _ _ _ _ => none
  | n + 1 => f_X5_choose_L80b kf (f_X5_choose_L80 kf n)
def f_X5_choose_B67 (kf : Int32 → Int32 → Int32 → Int32 → Int32 → Int32 → Int32 → Int32 → Int32 → Int32 → Int32 → Int32 → Int64 → Int32 → Int32 → Int32 → Int32 → (Nat → Int32) → (Nat → Int32) → (Nat → Int32) → (Nat → Int32) → (Nat → Int32) → (Nat → Int64) → (Nat → Int32) → Option (Int32 × Int64 × Int32 × Int32 × Int32 × Int32 × (Nat → Int32) × (Nat → Int64) × (Nat → Int32))) (v1 : Int32) (v2 : Int32) (v3 : Int32) (v4 : Int32) (v5 : Int32) (v6 : Int32) (v7 : Int32) (v8 : Int32) (o_last : Int32) (o_turnsLet : Int32) (o_slowsLet : Int32) (o_glide : Int32) (o_count : Int32) (o_weightSum : Int64) (o_toPass : Int32) (o_foundWeight : Int32) (o_foundTurns : Int32) (o_foundSlowed : Int32) (o_howFar : Nat → Int32) (o_tones : Nat → Int32) (o_only : Nat → Int32) (o_fars : Nat → Int32) (o_cellAt : Nat → Int32) (o_ends : Nat → Int64) (o_seen : Nat → Int32) : Option (Int32 × Int64 × Int32 × Int32 × Int32 × Int32 × (Nat → Int32) × (Nat → Int64) × (Nat → Int32)) :=
  if v4 < o_turnsLet then
    f_X5_choose_L80 kf FU v1 v2 v3 v4 v5 v6 v7 v8 0 o_last o_turnsLet o_slowsLet o_glide o_count o_weightSum o_toPass o_foundWeight o_foundTurns o_foundSlowed o_howFar o_tones o_only o_fars o_cellAt o_ends o_seen
  else
    some (o_count, o_weightSum, o_toPass, o_foundWeight, o_foundTurns, o_foundSlowed, o_cellAt, o_ends, o_seen)
def f_X5_choose_B22 (kf : Int32 → Int32 → Int32 → Int32 → Int32 → Int32 → Int32 → Int32 → Int32 → Int32 → Int32 → Int32 → Int64 → Int32 → Int32 → Int32 → Int32 → (Nat → Int32) → (Nat → Int32) → (Nat → Int32) → (Nat → Int32) → (Nat → Int32) → (Nat → Int64) → (Nat → Int32) → Option (Int32 × Int64 × Int32 × Int32 × Int32 × Int32 × (Nat → Int32) × (Nat → Int64) × (Nat → Int32))) (v1 : Int32) (v2 : Int32) (v3 : Int32) (v4 : Int32) (v5 : Int32) (v6 : Int32) (v7 : Int32) (y0 : Int32) (o_last : Int32) (o_turnsLet : Int32) (o_slowsLet : Int32) (o_glide : Int32) (o_count : Int32) (o_weightSum : Int64) (o_toPass : Int32) (o_foundWeight : Int32) (o_foundTurns : Int32) (o_foundSlowed : Int32) (o_howFar : Nat → Int32) (o_tones : Nat → Int32) (o_only : Nat → Int32) (o_fars : Nat → Int32) (o_cellAt : Nat → Int32) (o_ends : Nat → Int64) (o_seen : Nat → Int32) : Option (Int32 × Int64 × Int32 × Int32 × Int32 × Int32 × (Nat → Int32) × (Nat → Int64) × (Nat → Int32)) :=
  bd9 (kf v1 v2 v3 v4 v5 v6 v7 o_last o_turnsLet o_slowsLet o_glide o_count o_weightSum o_toPass o_foundWeight o_foundTurns o_foundSlowed o_howFar o_tones o_only o_fars o_cellAt o_ends o_seen) fun w_22 w_23 w_24 w_25 w_26 w_27 w_28 w_29 w_30 =>
  if y0 = 0 then
    f_X5_choose_B67 kf v1 v2 v3 v4 v5 v6 v7 y0 o_last o_turnsLet o_slowsLet o_glide w_22 w_23 w_24 w_25 w_26 w_27 o_howFar o_tones o_only o_fars w_28 w_29 w_30
  else
    bd1 (f_X5_isFound w_24) fun r_31 =>
    if r_31 = 0 then
      bd9 (kf v1 v2 (v3 - 1) v4 1 v6 v7 o_last o_turnsLet o_slowsLet o_glide w_22 w_23 w_24 w_25 w_26 w_27 o_howFar o_tones o_only o_fars w_28 w_29 w_30) fun w_32 w_33 w_34 w_35 w_36 w_37 w_38 w_39 w_40 =>
      f_X5_choose_B67 kf v1 v2 v3 v4 v5 v6 v7 y0 o_last o_turnsLet o_slowsLet o_glide w_32 w_33 w_34 w_35 w_36 w_37 o_howFar o_tones o_only o_fars w_38 w_39 w_40
    else
      f_X5_choose_B67 kf v1 v2 v3 v4 v5 v6 v7 y0 o_last o_turnsLet o_slowsLet o_glide w_22 w_23 w_24 w_25 w_26 w_27 o_howFar o_tones o_only o_fars w_28 w_29 w_30
def f_X5_choose_B21 (kf : Int32 → Int32 → Int32 → Int32 → Int32 → Int32 → Int32 → Int32 → Int32 → Int32 → Int32 → Int32 → Int64 → Int32 → Int32 → Int32 → Int32 → (Nat → Int32) → (Nat → Int32) → (Nat → Int32) → (Nat → Int32) → (Nat → Int32) → (Nat → Int64) → (Nat → Int32) → Option (Int32 × Int64 × Int32 × Int32 × Int32 × Int32 × (Nat → Int32) × (Nat → Int64) × (Nat → Int32))) (v1 : Int32) (v2 : Int32) (v3 : Int32) (v4 : Int32) (v5 : Int32) (v6 : Int32) (v7 : Int32) (o_last : Int32) (o_turnsLet : Int32) (o_slowsLet : Int32) (o_glide : Int32) (o_count : Int32) (o_weightSum : Int64) (o_toPass : Int32) (o_foundWeight : Int32) (o_foundTurns : Int32) (o_foundSlowed : Int32) (o_howFar : Nat → Int32) (o_tones : Nat → Int32) (o_only : Nat → Int32) (o_fars : Nat → Int32) (o_cellAt : Nat → Int32) (o_ends : Nat → Int64) (o_seen : Nat → Int32) : Option (Int32 × Int64 × Int32 × Int32 × Int32 × Int32 × (Nat → Int32) × (Nat → Int64) × (Nat → Int32)) :=
  f_X5_choose_B22 kf v1 v2 v3 v4 v5 v6 v7 0 o_last o_turnsLet o_slowsLet o_glide o_count o_weightSum o_toPass o_foundWeight o_foundTurns o_foundSlowed o_howFar o_tones o_only o_fars o_cellAt o_ends o_seen
def f_X5_choose (kf : Int32 → Int32 → Int32 → Int32 → Int32 → Int32 → Int32 → Int32 → Int32 → Int32 → Int32 → Int32 → Int64 → Int32 → Int32 → Int32 → Int32 → (Nat → Int32) → (Nat → Int32) → (Nat → Int32) → (Nat → Int32) → (Nat → Int32) → (Nat → Int64) → (Nat → Int32) → Option (Int32 × Int64 × Int32 × Int32 × Int32 × Int32 × (Nat → Int32) × (Nat → Int64) × (Nat → Int32))) (x1 : Int32) (x2 : Int32) (x3 : Int32) (x4 : Int32) (x5 : Int32) (x6 : Int32) (x7 : Int32) (o_last : Int32) (o_turnsLet : Int32) (o_slowsLet : Int32) (o_glide : Int32) (o_count : Int32) (o_weightSum : Int64) (o_toPass : Int32) (o_foundWeight : Int32) (o_foundTurns : Int32) (o_foundSlowed : Int32) (o_howFar : Nat → Int32) (o_tones : Nat → Int32) (o_only : Nat → Int32) (o_fars : Nat → Int32) (o_cellAt : Nat → Int32) (o_ends : Nat → Int64) (o_seen : Nat → Int32) : Option (Int32 × Int64 × Int32 × Int32 × Int32 × Int32 × (Nat → Int32) × (Nat → Int64) × (Nat → Int32)) :=
  if o_slowsLet = 0 then
    f_X5_choose_B21 kf x1 x2 x3 x4 x5 x6 x7 o_last o_turnsLet o_slowsLet o_glide o_count o_weightSum o_toPass o_foundWeight o_foundTurns o_foundSlowed o_howFar o_tones o_only o_fars o_cellAt o_ends o_seen
  else
    if x5 = 0 then
      if x3 ≤ 1 then
        f_X5_choose_B21 kf x1 x2 x3 x4 x5 x6 x7 o_last o_turnsLet o_slowsLet o_glide o_count o_weightSum o_toPass o_foundWeight o_foundTurns o_foundSlowed o_howFar o_tones o_only o_fars o_cellAt o_ends o_seen
      else
        f_X5_choose_B22 kf x1 x2 x3 x4 x5 x6 x7 1 o_last o_turnsLet o_slowsLet o_glide o_count o_weightSum o_toPass o_foundWeight o_foundTurns o_foundSlowed o_howFar o_tones o_only o_fars o_cellAt o_ends o_seen
    else
      f_X5_choose_B21 kf x1 x2 x3 x4 x5 x6 x7 o_last o_turnsLet o_slowsLet o_glide o_count o_weightSum o_toPass o_foundWeight o_foundTurns o_foundSlowed o_howFar o_tones o_only o_fars o_cellAt o_ends o_seen
def f_X5_fly_B175 (kf : Int32 → Int32 → Int32 → Int32 → Int32 → Int32 → Int32 → Int32 → Int32 → Int32 → Int32 → Int32 → Int64 → Int32 → Int32 → Int32 → Int32 → (Nat → Int32) → (Nat → Int32) → (Nat → Int32) → (Nat → Int32) → (Nat → Int32) → (Nat → Int64) → (Nat → Int32) → Option (Int32 × Int64 × Int32 × Int32 × Int32 × Int32 × (Nat → Int32) × (Nat → Int64) × (Nat → Int32))) (v1 : Int32) (v10 : Int32) (v12 : Int32) (o_last : Int32) (o_turnsLet : Int32) (o_slowsLet : Int32) (o_glide : Int32) (o_count : Int32) (o_weightSum : Int64) (o_toPass : Int32) (o_foundWeight : Int32) (o_foundTurns : Int32) (o_foundSlowed : Int32) (o_howFar : Nat → Int32) (o_tones : Nat → Int32) (o_only : Nat → Int32) (o_fars : Nat → Int32) (o_cellAt : Nat → Int32) (o_ends : Nat → Int64) (o_seen : Nat → Int32) : Option (Int32 × Int64 × Int32 × Int32 × Int32 × Int32 × (Nat → Int32) × (Nat → Int64) × (Nat → Int32)) :=
  if o_count ≤ v12 then
    some (o_count, o_weightSum, o_toPass, o_foundWeight, o_foundTurns, o_foundSlowed, o_cellAt, o_ends, o_seen)
  else
    bd1 (f_X5_see (v1 + 1) v10 o_seen) fun w_1 =>
    some (o_count, o_weightSum, o_toPass, o_foundWeight, o_foundTurns, o_foundSlowed, o_cellAt, o_ends, w_1)
def f_X5_flyb (kf : Int32 → Int32 → Int32 → Int32 → Int32 → Int32 → Int32 → Int32 → Int32 → Int32 → Int32 → Int32 → Int64 → Int32 → Int32 → Int32 → Int32 → (Nat → Int32) → (Nat → Int32) → (Nat → Int32) → (Nat → Int32) → (Nat → Int32) → (Nat → Int64) → (Nat → Int32) → Option (Int32 × Int64 × Int32 × Int32 × Int32 × Int32 × (Nat → Int32) × (Nat → Int64) × (Nat → Int32))) (x1 : Int32) (x2 : Int32) (x3 : Int32) (x4 : Int32) (x5 : Int32) (x6 : Int32) (x7 : Int32) (o_last : Int32) (o_turnsLet : Int32) (o_slowsLet : Int32) (o_glide : Int32) (o_count : Int32) (o_weightSum : Int64) (o_toPass : Int32) (o_foundWeight : Int32) (o_foundTurns : Int32) (o_foundSlowed : Int32) (o_howFar : Nat → Int32) (o_tones : Nat → Int32) (o_only : Nat → Int32) (o_fars : Nat → Int32) (o_cellAt : Nat → Int32) (o_ends : Nat → Int64) (o_seen : Nat → Int32) : Option (Int32 × Int64 × Int32 × Int32 × Int32 × Int32 × (Nat → Int32) × (Nat → Int64) × (Nat → Int32)) :=
  nm (x7 - (x3 * x3)) fun x_2 =>
  if x1 < 0 then
    some (o_count, o_weightSum, o_toPass, o_foundWeight, o_foundTurns, o_foundSlowed, o_cellAt, o_ends, o_seen)
  else
    if o_last ≤ x1 then
      some (o_count, o_weightSum, o_toPass, o_foundWeight, o_foundTurns, o_foundSlowed, o_cellAt, o_ends, o_seen)
    else
      if 6 ≤ x1 then
        some (o_count, o_weightSum, o_toPass, o_foundWeight, o_foundTurns, o_foundSlowed, o_cellAt, o_ends, o_seen)
      else
        if 0 ≤ x_2 then
          chk (¬ (x1 < 0 ∨ 7 ≤ x1.toNatClampNeg)) <|
          nm (o_cellAt x1.toNatClampNeg) fun x_3 =>
          bd1 (f_X6_ahead x_3 x2 x3) fun r_4 =>
          if r_4 = (-1) then
            some (o_count, o_weightSum, o_toPass, o_foundWeight, o_foundTurns, o_foundSlowed, o_cellAt, o_ends, o_seen)
          else
            bd1 (f_X6_isCell x_3) fun r_5 =>
            if r_5 = 0 then
              some (o_count, o_weightSum, o_toPass, o_foundWeight, o_foundTurns, o_foundSlowed, o_cellAt, o_ends, o_seen)
            else
              bd1 (f_X5_isLet x1 x_3 o_only) fun r_6 =>
              if r_6 = 0 then
                some (o_count, o_weightSum, o_toPass, o_foundWeight, o_foundTurns, o_foundSlowed, o_cellAt, o_ends, o_seen)
              else
                bd1 (f_X5_isLet (x1 + 1) r_4 o_only) fun r_7 =>
                if r_7 = 0 then
                  some (o_count, o_weightSum, o_toPass, o_foundWeight, o_foundTurns, o_foundSlowed, o_cellAt, o_ends, o_seen)
                else
                  chk (¬ (x_3 < 0 ∨ 100 ≤ x_3.toNatClampNeg)) <|
                  chk (¬ (r_4 < 0 ∨ 100 ≤ r_4.toNatClampNeg)) <|
                  bd1 (f_X5_ringGives (x1 + 1) (o_fars x_3.toNatClampNeg) (o_fars r_4.toNatClampNeg) o_howFar o_tones) fun r_8 =>
                  nm (x6 * r_8) fun x_9 =>
                  if x_9 = 0 then
                    some (o_count, o_weightSum, o_toPass, o_foundWeight, o_foundTurns, o_foundSlowed, o_cellAt, o_ends, o_seen)
                  else
                    chk (¬ (x1 + 1 < 0 ∨ 7 ≤ (x1 + 1).toNatClampNeg)) <|
                    if (x1 + 1) = o_last then
                      bd7 (f_X5_arrive x2 x4 x5 x_9 o_last o_glide o_count o_weightSum o_toPass o_foundWeight o_foundTurns o_foundSlowed (upd o_cellAt (x1 + 1).toNatClampNeg r_4) o_ends) fun w_19 w_20 w_21 w_22 w_23 w_24 w_25 =>
                      f_X5_fly_B175 kf x1 r_4 o_count o_last o_turnsLet o_slowsLet o_glide w_19 w_20 w_21 w_22 w_23 w_24 o_howFar o_tones o_only o_fars (upd o_cellAt (x1 + 1).toNatClampNeg r_4) w_25 o_seen
                    else
                      bd9 (f_X5_choose kf (x1 + 1) x2 x3 x4 x5 x_9 x_2 o_last o_turnsLet o_slowsLet o_glide o_count o_weightSum o_toPass o_foundWeight o_foundTurns o_foundSlowed o_howFar o_tones o_only o_fars (upd o_cellAt (x1 + 1).toNatClampNeg r_4) o_ends o_seen) fun w_10 w_11 w_12 w_13 w_14 w_15 w_16 w_17 w_18 =>
                      f_X5_fly_B175 kf x1 r_4 o_count o_last o_turnsLet o_slowsLet o_glide w_10 w_11 w_12 w_13 w_14 w_15 o_howFar o_tones o_only o_fars w_16 w_17 w_18
        else
          some (o_count, o_weightSum, o_toPass, o_foundWeight, o_foundTurns, o_foundSlowed, o_cellAt, o_ends, o_seen)
def f_X5_fly : Nat → Int32 → Int32 → Int32 → Int32 → Int32 → Int32 → Int32 → Int32 → Int32 → Int32 → Int32 → Int32 → Int64 → Int32 → Int32 → Int32 → Int32 → (Nat → Int32) → (Nat → Int32) → (Nat → Int32) → (Nat → Int32) → (Nat → Int32) → (Nat → Int64) → (Nat → Int32) → Option (Int32 × Int64 × Int32 × Int32 × Int32 × Int32 × (Nat → Int32) × (Nat → Int64) × (Nat → Int32))
  | 0 => fun _ _ _ _ _ _ _ _ _ _ _ _ _ _ _ _ _ _ _ _ _ _ _ _ => none
  | d + 1 => f_X5_flyb (f_X5_fly d)
def rm_X5_fly (d : Nat) : Room := { frames := 4 * d + 8, cells := 0, slots := 0, locals := 100 * d + 200 }
def rm_X5_choose (d : Nat) : Room := { frames := 4 * d + 9, cells := 0, slots := 0, locals := 100 * d + 240 }
def FlyC (l : Launch) (dC : Nat → ClassId) (dI : Nat → Nat → Nat) (cyI cyJ cyO : ClassId) (d : Nat) : Prop := ∀ (sz : Nat) (tD tR tL tM : Nat) (h_o a_o_howFar a_o_tones a_o_only a_o_fars a_o_cellAt a_o_ends a_o_seen a_o_begun : Nat) (o_last : Int32) (o_turnsLet : Int32) (o_slowsLet : Int32) (o_fuel : Int32) (o_glide : Int32) (o_count : Int32) (o_weightSum : Int64) (o_toPass : Int32) (o_foundNumber : Int32) (o_foundWeight : Int32) (o_foundTurns : Int32) (o_foundSlowed : Int32) (o_howFar : Nat → Int32) (o_tones : Nat → Int32) (o_only : Nat → Int32) (o_fars : Nat → Int32) (o_cellAt : Nat → Int32) (o_ends : Nat → Int64) (o_seen : Nat → Int32) (x1 : Int32) (x2 : Int32) (x3 : Int32) (x4 : Int32) (x5 : Int32) (x6 : Int32) (x7 : Int32) (post : (Int32 × Int64 × Int32 × Int32 × Int32 × Int32 × (Nat → Int32) × (Nat → Int64) × (Nat → Int32)) → Prop), okP (f_X5_fly d x1 x2 x3 x4 x5 x6 x7 o_last o_turnsLet o_slowsLet o_glide o_count o_weightSum o_toPass o_foundWeight o_foundTurns o_foundSlowed o_howFar o_tones o_only o_fars o_cellAt o_ends o_seen) post → Cv l (dC, dI) (tyL cyI cyJ cyO) yX5_fly wsX5_fly (rm_X5_fly d) [.ref h_o, .int x1, .int x2, .int x3, .int x4, .int x5, .int x6, .int x7] sz (W_X5_fly cyI cyJ cyO h_o a_o_howFar a_o_tones a_o_only a_o_fars a_o_cellAt a_o_ends a_o_seen a_o_begun o_last o_turnsLet o_slowsLet o_fuel o_glide o_count o_weightSum o_toPass o_foundNumber o_foundWeight o_foundTurns o_foundSlowed o_howFar o_tones o_only o_fars o_cellAt o_ends o_seen) (zX tD tR tL tM) (fun u => post u) (fun u => (W_X5_fly cyI cyJ cyO h_o a_o_howFar a_o_tones a_o_only a_o_fars a_o_cellAt a_o_ends a_o_seen a_o_begun o_last o_turnsLet o_slowsLet o_fuel o_glide u.1 u.2.1 u.2.2.1 o_foundNumber u.2.2.2.1 u.2.2.2.2.1 u.2.2.2.2.2.1 o_howFar o_tones o_only o_fars u.2.2.2.2.2.2.1 u.2.2.2.2.2.2.2.1 u.2.2.2.2.2.2.2.2))
set_option maxRecDepth 100000 in
set_option maxHeartbeats 4000000 in
theorem c_X5_choose (l : Launch) (dC : Nat → ClassId) (dI : Nat → Nat → Nat) (cyI cyJ cyO : ClassId) (d : Nat) (ihf : FlyC l dC dI cyI cyJ cyO d) (sz : Nat) (tD tR tL tM : Nat) (h_o a_o_howFar a_o_tones a_o_only a_o_fars a_o_cellAt a_o_ends a_o_seen a_o_begun : Nat) (o_last : Int32) (o_turnsLet : Int32) (o_slowsLet : Int32) (o_fuel : Int32) (o_glide : Int32) (o_count : Int32) (o_weightSum : Int64) (o_toPass : Int32) (o_foundNumber : Int32) (o_foundWeight : Int32) (o_foundTurns : Int32) (o_foundSlowed : Int32) (o_howFar : Nat → Int32) (o_tones : Nat → Int32) (o_only : Nat → Int32) (o_fars : Nat → Int32) (o_cellAt : Nat → Int32) (o_ends : Nat → Int64) (o_seen : Nat → Int32) (x1 : Int32) (x2 : Int32) (x3 : Int32) (x4 : Int32) (x5 : Int32) (x6 : Int32) (x7 : Int32) (post : (Int32 × Int64 × Int32 × Int32 × Int32 × Int32 × (Nat → Int32) × (Nat → Int64) × (Nat → Int32)) → Prop) (hf : okP (f_X5_choose (f_X5_fly d) x1 x2 x3 x4 x5 x6 x7 o_last o_turnsLet o_slowsLet o_glide o_count o_weightSum o_toPass o_foundWeight o_foundTurns o_foundSlowed o_howFar o_tones o_only o_fars o_cellAt o_ends o_seen) post) : Cv l (dC, dI) (tyL cyI cyJ cyO) yX5_choose wsX5_choose (rm_X5_choose d) [.ref h_o, .int x1, .int x2, .int x3, .int x4, .int x5, .int x6, .int x7] sz (W_X5_choose cyI cyJ cyO h_o a_o_howFar a_o_tones a_o_only a_o_fars a_o_cellAt a_o_ends a_o_seen a_o_begun o_last o_turnsLet o_slowsLet o_fuel o_glide o_count o_weightSum o_toPass o_foundNumber o_foundWeight o_foundTurns o_foundSlowed o_howFar o_tones o_only o_fars o_cellAt o_ends o_seen) (zX tD tR tL tM) (fun u => post u) (fun u => (W_X5_choose cyI cyJ cyO h_o a_o_howFar a_o_tones a_o_only a_o_fars a_o_cellAt a_o_ends a_o_seen a_o_begun o_last o_turnsLet o_slowsLet o_fuel o_glide u.1 u.2.1 u.2.2.1 o_foundNumber u.2.2.2.1 u.2.2.2.2.1 u.2.2.2.2.2.1 o_howFar o_tones o_only o_fars u.2.2.2.2.2.2.1 u.2.2.2.2.2.2.2.1 u.2.2.2.2.2.2.2.2)) := by
  refine Met.ofW (cc := cX5_choose) (maxL := 10) (ret := none) (by decide) rfl ?_
  intro p e s m args below meth c s₁ B hml hv
  obtain ⟨rfl, hsz, hP, hK, hD0, hZ⟩ := hv
  have hx := B.exec
  have hb := B.bytes
  have hr := B.returns
  have hts := atoms_spec (ws := wsX5_choose) B.pre
  have hown : s.vm.findClass RX5 = some m.cls := findClass_of_methodNamed B.named
  have hlocks := B.notSynchronized
  subst hsz
  have hD := hD0.self (sz := s.heap.size)
  generalize hAe : va_A (W_X5_choose cyI cyJ cyO h_o a_o_howFar a_o_tones a_o_only a_o_fars a_o_cellAt a_o_ends a_o_seen a_o_begun o_last o_turnsLet o_slowsLet o_fuel o_glide o_count o_weightSum o_toPass o_foundNumber o_foundWeight o_foundTurns o_foundSlowed o_howFar o_tones o_only o_fars o_cellAt o_ends o_seen) s.heap.size = A at hD hZ ⊢
  have hA : ∀ q : Nat, s.heap.size ≤ q → A q := fun q h => by rw [← hAe]; exact Or.inr h
  clear hAe hD0
  have hS : va_S A s.heap s.heap [] := va_S.rf
  have hl := lv_entry ([.ref h_o, .int x1, .int x2, .int x3, .int x4, .int x5, .int x6, .int x7]) (n := 10) (Nat.le_of_ble_eq_true rfl)
  rw [lg_entry_eq]
  generalize (lg_sl ([.ref h_o, .int x1, .int x2, .int x3, .int x4, .int x5, .int x6, .int x7]) ++ List.replicate (10 - (lg_sl ([.ref h_o, .int x1, .int x2, .int x3, .int x4, .int x5, .int x6, .int x7])).length) Slot.unset).toArray = ls at hl ⊢
  have hl : lv_has ls 10 [(0, .ref h_o), (1, .int x1), (2, .int x2), (3, .int x3), (4, .int x4), (5, .int x5), (6, .int x6), (7, .int x7)] := hl
  refine kW (fun Q hQ => ?_)
  have hq0 := hts _ (List.mem_cons_of_mem _ q_122)
  have hi5 : ∀ w ∈ u_ws RX5 TX5 20, w ∈ wsX5_choose := fun w h => List.mem_cons_of_mem _ (inX5 w h)
  have hq2 := hts _ (List.mem_cons_of_mem _ q_123)
  have hw := hf
  have w80 : ∀ (n : Nat), ∀ (v1 : Int32) (v2 : Int32) (v3 : Int32) (v4 : Int32) (v5 : Int32) (v6 : Int32) (v7 : Int32) (v8 : Int32) (v9 : Int32) (o_count : Int32) (o_weightSum : Int64) (o_toPass : Int32) (o_foundWeight : Int32) (o_foundTurns : Int32) (o_foundSlowed : Int32) (o_cellAt : Nat → Int32) (o_ends : Nat → Int64) (o_seen : Nat → Int32) (H : Heap) (locs : List Loc), va_P (dC, dI) vwCl (W_X5_choose cyI cyJ cyO h_o a_o_howFar a_o_tones a_o_only a_o_fars a_o_cellAt a_o_ends a_o_seen a_o_begun o_last o_turnsLet o_slowsLet o_fuel o_glide o_count o_weightSum o_toPass o_foundNumber o_foundWeight o_foundTurns o_foundSlowed o_howFar o_tones o_only o_fars o_cellAt o_ends o_seen) H → va_D A (W_X5_choose cyI cyJ cyO h_o a_o_howFar a_o_tones a_o_only a_o_fars a_o_cellAt a_o_ends a_o_seen a_o_begun o_last o_turnsLet o_slowsLet o_fuel o_glide o_count o_weightSum o_toPass o_foundNumber o_foundWeight o_foundTurns o_foundSlowed o_howFar o_tones o_only o_fars o_cellAt o_ends o_seen) → va_S A s.heap H locs → ∀ (ls : Array Slot), lv_has ls 10 [(0, .ref h_o), (1, .int v1), (2, .int v2), (3, .int v3), (4, .int v4), (5, .int v5), (6, .int v6), (7, .int v7), (8, .int v8), (9, .int v9)] → okP (f_X5_choose_L80 (f_X5_fly d) n v1 v2 v3 v4 v5 v6 v7 v8 v9 o_last o_turnsLet o_slowsLet o_glide o_count o_weightSum o_toPass o_foundWeight o_foundTurns o_foundSlowed o_howFar o_tones o_only o_fars o_cellAt o_ends o_seen) post → W p l e (headSpec wsX5_choose (rm_X5_choose d)).room s m ([.ref h_o, .int x1, .int x2, .int x3, .int x4, .int x5, .int x6, .int x7] : List Value).toArray below meth c H locs 0 0 Q (F0 m 80 ls []) := by
    intro n
    induction n with
    | zero =>
      intro v1 v2 v3 v4 v5 v6 v7 v8 v9 o_count o_weightSum o_toPass o_foundWeight o_foundTurns o_foundSlowed o_cellAt o_ends o_seen H locs hP hD hS ls hl hw
      exact (ok0 hw).elim
    | succ n80 ih80 =>
      have w152 : ∀ (v1 : Int32) (v2 : Int32) (v3 : Int32) (v4 : Int32) (v5 : Int32) (v6 : Int32) (v7 : Int32) (v8 : Int32) (v9 : Int32) (o_count : Int32) (o_weightSum : Int64) (o_toPass : Int32) (o_foundWeight : Int32) (o_foundTurns : Int32) (o_foundSlowed : Int32) (o_cellAt : Nat → Int32) (o_ends : Nat → Int64) (o_seen : Nat → Int32) (H : Heap) (locs : List Loc), va_P (dC, dI) vwCl (W_X5_choose cyI cyJ cyO h_o a_o_howFar a_o_tones a_o_only a_o_fars a_o_cellAt a_o_ends a_o_seen a_o_begun o_last o_turnsLet o_slowsLet o_fuel o_glide o_count o_weightSum o_toPass o_foundNumber o_foundWeight o_foundTurns o_foundSlowed o_howFar o_tones o_only o_fars o_cellAt o_ends o_seen) H → va_D A (W_X5_choose cyI cyJ cyO h_o a_o_howFar a_o_tones a_o_only a_o_fars a_o_cellAt a_o_ends a_o_seen a_o_begun o_last o_turnsLet o_slowsLet o_fuel o_glide o_count o_weightSum o_toPass o_foundNumber o_foundWeight o_foundTurns o_foundSlowed o_howFar o_tones o_only o_fars o_cellAt o_ends o_seen) → va_S A s.heap H locs → ∀ (ls : Array Slot), lv_has ls 10 [(0, .ref h_o), (1, .int v1), (2, .int v2), (3, .int v3), (4, .int v4), (5, .int v5), (6, .int v6), (7, .int v7), (8, .int v8), (9, .int v9)] → okP (f_X5_choose_B152 (f_X5_fly d) (f_X5_choose_L80 (f_X5_fly d) n80) v1 v2 v3 v4 v5 v6 v7 v8 v9 o_last o_turnsLet o_slowsLet o_glide o_count o_weightSum o_toPass o_foundWeight o_foundTurns o_foundSlowed o_howFar o_tones o_only o_fars o_cellAt o_ends o_seen) post → W p l e (headSpec wsX5_choose (rm_X5_choose d)).room s m ([.ref h_o, .int x1, .int x2, .int x3, .int x4, .int x5, .int x6, .int x7] : List Value).toArray below meth c H locs 0 0 Q (F0 m 152 ls []) := by
        intro v1 v2 v3 v4 v5 v6 v7 v8 v9 o_count o_weightSum o_toPass o_foundWeight o_foundTurns o_foundSlowed o_cellAt o_ends o_seen H locs hP hD hS ls hl hw
        unfold f_X5_choose_B152 at hw
        obtain ⟨x_1, ex_1⟩ : ∃ y : Int32, y = v9 + 1 := ⟨_, rfl⟩
        replace hw := okN ex_1 hw
        refine lv_iinc (v := x_1) (lv' := [(9, .int x_1), (0, .ref h_o), (1, .int v1), (2, .int v2), (3, .int v3), (4, .int v4), (5, .int v5), (6, .int v6), (7, .int v7), (8, .int v8)]) hx hb dX5_choose_152 hl (k := 9) rfl (by rw [ex_1]; rfl) (by decide) rfl (fun ls hl => ?_)
        clear ex_1
        refine lv_goto (tgt := 80) hx hb dX5_choose_155 (by decide) ?_
        exact ih80 v1 v2 v3 v4 v5 v6 v7 v8 x_1 o_count o_weightSum o_toPass o_foundWeight o_foundTurns o_foundSlowed o_cellAt o_ends o_seen _ _ hP hD hS _ (lv_sub hl [1, 2, 3, 4, 5, 6, 7, 8, 9, 0] rfl) hw
      intro v1 v2 v3 v4 v5 v6 v7 v8 v9 o_count o_weightSum o_toPass o_foundWeight o_foundTurns o_foundSlowed o_cellAt o_ends o_seen H locs hP hD hS ls hl hw
      replace hw : okP (f_X5_choose_L80b (f_X5_fly d) (f_X5_choose_L80 (f_X5_fly d) n80) v1 v2 v3 v4 v5 v6 v7 v8 v9 o_last o_turnsLet o_slowsLet o_glide o_count o_weightSum o_toPass o_foundWeight o_foundTurns o_foundSlowed o_howFar o_tones o_only o_fars o_cellAt o_ends o_seen) post := hw
      unfold f_X5_choose_L80b at hw
      refine lv_iload hx hb dX5_choose_80 (lv_at hl 9 rfl) ?_
      refine lv_bipush (v := 8) hx hb dX5_choose_82 (by decide) ?_
      refine lv_icmp_ge (tgt := 158) hx hb dX5_choose_84 (by decide) (fun c_2 => ?_) (fun c_2 => ?_)
      · replace hw := okT hw c_2
        clear c_2
        rw [hQ]
        exact W.vret hx hb hr (fun t ht hW => ⟨⟨(o_count, o_weightSum, o_toPass, o_foundWeight, o_foundTurns, o_foundSlowed, o_cellAt, o_ends, o_seen), rfl, okS hw, by rw [ht]; exact hP, va_K.moved hW.alike hK, hD⟩, hS.F ht⟩) hS.2.2 dX5_choose_158
      · replace hw := okF hw c_2
        clear c_2
        refine lv_aload_n hx hb dX5_choose_87 rfl (lv_at hl 0 rfl) ?_
        have hPc := hP.sub (ws' := (W_X5_isFound cyI cyJ cyO h_o a_o_howFar a_o_tones a_o_only a_o_fars a_o_cellAt a_o_ends a_o_seen a_o_begun o_last o_turnsLet o_slowsLet o_fuel o_glide o_count o_weightSum o_toPass o_foundNumber o_foundWeight o_foundTurns o_foundSlowed)) [0] rfl
        have hDc := hD.sub (ws' := (W_X5_isFound cyI cyJ cyO h_o a_o_howFar a_o_tones a_o_only a_o_fars a_o_cellAt a_o_ends a_o_seen a_o_begun o_last o_turnsLet o_slowsLet o_fuel o_glide o_count o_weightSum o_toPass o_foundNumber o_foundWeight o_foundTurns o_foundSlowed)) [0] (by decide +kernel) rfl
        have hFc := va_free (wc := (W_X5_isFound cyI cyJ cyO h_o a_o_howFar a_o_tones a_o_only a_o_fars a_o_cellAt a_o_ends a_o_seen a_o_begun o_last o_turnsLet o_slowsLet o_fuel o_glide o_count o_weightSum o_toPass o_foundNumber o_foundWeight o_foundTurns o_foundSlowed)) hD hS hA [0] rfl
        refine kc_i (wr := [(a_o_howFar, .inl (cyI, 7, .inl o_howFar)), (a_o_tones, .inl (cyI, 7, .inl o_tones)), (a_o_only, .inl (cyI, 7, .inl o_only)), (a_o_fars, .inl (cyI, 100, .inl o_fars)), (a_o_cellAt, .inl (cyI, 7, .inl o_cellAt)), (a_o_ends, .inl (cyJ, 100, .inr (.inl o_ends))), (a_o_seen, .inl (cyI, 70, .inl o_seen))]) (va_runV (As := []) (rest := []) ⟨hx, hb, hml, hown, hts⟩ (c_X5_isFound l dC dI cyI cyJ cyO H.size h_o a_o_howFar a_o_tones a_o_only a_o_fars a_o_cellAt a_o_ends a_o_seen a_o_begun o_last o_turnsLet o_slowsLet o_fuel o_glide o_count o_weightSum o_toPass o_foundNumber o_foundWeight o_foundTurns o_foundSlowed _ (okb1 hw)) (cwV 0 hts (gdV (fun w h => List.mem_cons_of_mem _ h) q_443 q_445 qs_15 q_3 q_446) rfl rfl rfl (by decide +kernel) ⟨(by show 0 + 1 ≤ (rm_X5_choose d).frames; simp only [rm_X5_fly, rm_X5_choose]; omega), (by show 8 + (1 + 11) + 0 ≤ (rm_X5_choose d).locals; simp only [rm_X5_fly, rm_X5_choose]; omega)⟩) ⟨(kpre zN_ok hK hPc hDc trivial hS hFc).1, va_recv hK hP (ci := 5) (q0 := 0) rfl rfl, (kpre zN_ok hK hPc hDc trivial hS hFc).2⟩ rfl rfl hl.1 rfl (lv_room (Nat.le_of_ble_eq_true rfl)) dX5_choose_88 ⟨Nat.le_of_ble_eq_true rfl, Nat.le_of_ble_eq_true rfl⟩) hP hD hS hFc [0] [1, 2, 3, 4, 5, 6, 7] rfl rfl (by decide +kernel) (by decide +kernel) (fun r_3 u H locs hw hP hD hS => ?_)
        try dsimp only at hw
        have hP : va_P (dC, dI) vwCl (W_X5_choose cyI cyJ cyO h_o a_o_howFar a_o_tones a_o_only a_o_fars a_o_cellAt a_o_ends a_o_seen a_o_begun o_last o_turnsLet o_slowsLet o_fuel o_glide o_count o_weightSum o_toPass o_foundNumber o_foundWeight o_foundTurns o_foundSlowed o_howFar o_tones o_only o_fars o_cellAt o_ends o_seen) H := hP.sub [7, 0, 1, 2, 3, 4, 5, 6] rfl
        have hD : va_D A (W_X5_choose cyI cyJ cyO h_o a_o_howFar a_o_tones a_o_only a_o_fars a_o_cellAt a_o_ends a_o_seen a_o_begun o_last o_turnsLet o_slowsLet o_fuel o_glide o_count o_weightSum o_toPass o_foundNumber o_foundWeight o_foundTurns o_foundSlowed o_howFar o_tones o_only o_fars o_cellAt o_ends o_seen) := hD.sub [7, 0, 1, 2, 3, 4, 5, 6] (by decide +kernel) rfl
        clear hPc hDc hFc
        refine lv_if_ne (tgt := 158) hx hb dX5_choose_91 (by decide) (fun c_4 => ?_) (fun c_4 => ?_)
        · replace hw := okF hw c_4
          clear c_4
          rw [hQ]
          exact W.vret hx hb hr (fun t ht hW => ⟨⟨(o_count, o_weightSum, o_toPass, o_foundWeight, o_foundTurns, o_foundSlowed, o_cellAt, o_ends, o_seen), rfl, okS hw, by rw [ht]; exact hP, va_K.moved hW.alike hK, hD⟩, hS.F ht⟩) hS.2.2 dX5_choose_158
        · replace hw := okT hw c_4
          clear c_4
          refine lv_iload hx hb dX5_choose_94 (lv_at hl 9 rfl) ?_
          refine lv_iload_n hx hb dX5_choose_96 rfl (lv_at hl 2 rfl) ?_
          refine lv_icmp_ne (tgt := 103) hx hb dX5_choose_97 (by decide) (fun c_5 => ?_) (fun c_5 => ?_)
          · replace hw := okF hw c_5
            clear c_5
            refine lv_aload_n hx hb dX5_choose_103 rfl (lv_at hl 0 rfl) ?_
            refine lv_iload_n hx hb dX5_choose_104 rfl (lv_at hl 1 rfl) ?_
            refine lv_iload hx hb dX5_choose_105 (lv_at hl 9 rfl) ?_
            refine lv_iload_n hx hb dX5_choose_107 rfl (lv_at hl 3 rfl) ?_
            refine lv_iload hx hb dX5_choose_108 (lv_at hl 4 rfl) ?_
            refine lv_iconst (v := 1) hx hb dX5_choose_110 (by decide) ?_
            refine lv_iadd hx hb dX5_choose_111 ?_
            refine lv_iload hx hb dX5_choose_112 (lv_at hl 5 rfl) ?_
            refine lv_iload hx hb dX5_choose_114 (lv_at hl 6 rfl) ?_
            refine lv_iload hx hb dX5_choose_116 (lv_at hl 7 rfl) ?_
            have hPc := hP.sub (ws' := (W_X5_fly cyI cyJ cyO h_o a_o_howFar a_o_tones a_o_only a_o_fars a_o_cellAt a_o_ends a_o_seen a_o_begun o_last o_turnsLet o_slowsLet o_fuel o_glide o_count o_weightSum o_toPass o_foundNumber o_foundWeight o_foundTurns o_foundSlowed o_howFar o_tones o_only o_fars o_cellAt o_ends o_seen)) [0, 1, 2, 3, 4, 5, 6, 7] rfl
            have hDc := hD.sub (ws' := (W_X5_fly cyI cyJ cyO h_o a_o_howFar a_o_tones a_o_only a_o_fars a_o_cellAt a_o_ends a_o_seen a_o_begun o_last o_turnsLet o_slowsLet o_fuel o_glide o_count o_weightSum o_toPass o_foundNumber o_foundWeight o_foundTurns o_foundSlowed o_howFar o_tones o_only o_fars o_cellAt o_ends o_seen)) [0, 1, 2, 3, 4, 5, 6, 7] (by decide +kernel) rfl
            have hFc := va_free (wc := (W_X5_fly cyI cyJ cyO h_o a_o_howFar a_o_tones a_o_only a_o_fars a_o_cellAt a_o_ends a_o_seen a_o_begun o_last o_turnsLet o_slowsLet o_fuel o_glide o_count o_weightSum o_toPass o_foundNumber o_foundWeight o_foundTurns o_foundSlowed o_howFar o_tones o_only o_fars o_cellAt o_ends o_seen)) hD hS hA [0, 1, 2, 3, 4, 5, 6, 7] rfl
            refine kc_v (wr := []) (va_runV (As := [.int v1, .int v9, .int v3, .int (v4 + 1), .int v5, .int v6, .int v7]) (rest := []) ⟨hx, hb, hml, hown, hts⟩ (ihf H.size tD tR tL tM h_o a_o_howFar a_o_tones a_o_only a_o_fars a_o_cellAt a_o_ends a_o_seen a_o_begun o_last o_turnsLet o_slowsLet o_fuel o_glide o_count o_weightSum o_toPass o_foundNumber o_foundWeight o_foundTurns o_foundSlowed o_howFar o_tones o_only o_fars o_cellAt o_ends o_seen v1 v9 v3 (v4 + 1) v5 v6 v7 _ (okb9 hw)) (cwV 7 hts (gdV (fun w h => List.mem_cons_of_mem _ h) q_412 q_414 qs_10 q_3 q_415) rfl rfl rfl (by decide +kernel) ⟨(by show (rm_X5_fly d).frames + 1 ≤ (rm_X5_choose d).frames; simp only [rm_X5_fly, rm_X5_choose]; omega), (by show 8 + (13 + 11) + (rm_X5_fly d).locals ≤ (rm_X5_choose d).locals; simp only [rm_X5_fly, rm_X5_choose]; omega)⟩) ⟨(kpre zX_ok hK hPc hDc hZ hS hFc).1, va_recv hK hP (ci := 5) (q0 := 0) rfl rfl, (kpre zX_ok hK hPc hDc hZ hS hFc).2⟩ rfl rfl hl.1 rfl (lv_room (Nat.le_of_ble_eq_true rfl)) dX5_choose_118 ⟨Nat.le_of_ble_eq_true rfl, Nat.le_of_ble_eq_true rfl⟩) hP hD hS hFc [0, 1, 2, 3, 4, 5, 6, 7] [] rfl rfl (by decide +kernel) (by decide +kernel) (fun u H locs hw hP hD hS => ?_)
            obtain ⟨w_6, w_7, w_8, w_9, w_10, w_11, w_12, w_13, w_14⟩ := u
            try dsimp only at hw
            have hP : va_P (dC, dI) vwCl (W_X5_choose cyI cyJ cyO h_o a_o_howFar a_o_tones a_o_only a_o_fars a_o_cellAt a_o_ends a_o_seen a_o_begun o_last o_turnsLet o_slowsLet o_fuel o_glide w_6 w_7 w_8 o_foundNumber w_9 w_10 w_11 o_howFar o_tones o_only o_fars w_12 w_13 w_14) H := hP.sub [0, 1, 2, 3, 4, 5, 6, 7] rfl
            have hD : va_D A (W_X5_choose cyI cyJ cyO h_o a_o_howFar a_o_tones a_o_only a_o_fars a_o_cellAt a_o_ends a_o_seen a_o_begun o_last o_turnsLet o_slowsLet o_fuel o_glide w_6 w_7 w_8 o_foundNumber w_9 w_10 w_11 o_howFar o_tones o_only o_fars w_12 w_13 w_14) := hD.sub [0, 1, 2, 3, 4, 5, 6, 7] (by decide +kernel) rfl
            clear hPc hDc hFc
            refine lv_iload hx hb dX5_choose_121 (lv_at hl 8 rfl) ?_
            refine lv_if_eq (tgt := 152) hx hb dX5_choose_123 (by decide) (fun c_15 => ?_) (fun c_15 => ?_)
            · replace hw := okT hw c_15
              clear c_15
              exact w152 v1 v2 v3 v4 v5 v6 v7 v8 v9 w_6 w_7 w_8 w_9 w_10 w_11 w_12 w_13 w_14 _ _ hP hD hS _ (lv_sub hl [0, 1, 2, 3, 4, 5, 6, 7, 8, 9] rfl) hw
            · replace hw := okF hw c_15
              clear c_15
              refine lv_aload_n hx hb dX5_choose_126 rfl (lv_at hl 0 rfl) ?_
              have hPc := hP.sub (ws' := (W_X5_isFound cyI cyJ cyO h_o a_o_howFar a_o_tones a_o_only a_o_fars a_o_cellAt a_o_ends a_o_seen a_o_begun o_last o_turnsLet o_slowsLet o_fuel o_glide w_6 w_7 w_8 o_foundNumber w_9 w_10 w_11)) [0] rfl
              have hDc := hD.sub (ws' := (W_X5_isFound cyI cyJ cyO h_o a_o_howFar a_o_tones a_o_only a_o_fars a_o_cellAt a_o_ends a_o_seen a_o_begun o_last o_turnsLet o_slowsLet o_fuel o_glide w_6 w_7 w_8 o_foundNumber w_9 w_10 w_11)) [0] (by decide +kernel) rfl
              have hFc := va_free (wc := (W_X5_isFound cyI cyJ cyO h_o a_o_howFar a_o_tones a_o_only a_o_fars a_o_cellAt a_o_ends a_o_seen a_o_begun o_last o_turnsLet o_slowsLet o_fuel o_glide w_6 w_7 w_8 o_foundNumber w_9 w_10 w_11)) hD hS hA [0] rfl
              refine kc_i (wr := [(a_o_howFar, .inl (cyI, 7, .inl o_howFar)), (a_o_tones, .inl (cyI, 7, .inl o_tones)), (a_o_only, .inl (cyI, 7, .inl o_only)), (a_o_fars, .inl (cyI, 100, .inl o_fars)), (a_o_cellAt, .inl (cyI, 7, .inl w_12)), (a_o_ends, .inl (cyJ, 100, .inr (.inl w_13))), (a_o_seen, .inl (cyI, 70, .inl w_14))]) (va_runV (As := []) (rest := []) ⟨hx, hb, hml, hown, hts⟩ (c_X5_isFound l dC dI cyI cyJ cyO H.size h_o a_o_howFar a_o_tones a_o_only a_o_fars a_o_cellAt a_o_ends a_o_seen a_o_begun o_last o_turnsLet o_slowsLet o_fuel o_glide w_6 w_7 w_8 o_foundNumber w_9 w_10 w_11 _ (okb1 hw)) (cwV 0 hts (gdV (fun w h => List.mem_cons_of_mem _ h) q_443 q_445 qs_15 q_3 q_446) rfl rfl rfl (by decide +kernel) ⟨(by show 0 + 1 ≤ (rm_X5_choose d).frames; simp only [rm_X5_fly, rm_X5_choose]; omega), (by show 8 + (1 + 11) + 0 ≤ (rm_X5_choose d).locals; simp only [rm_X5_fly, rm_X5_choose]; omega)⟩) ⟨(kpre zN_ok hK hPc hDc trivial hS hFc).1, va_recv hK hP (ci := 5) (q0 := 0) rfl rfl, (kpre zN_ok hK hPc hDc trivial hS hFc).2⟩ rfl rfl hl.1 rfl (lv_room (Nat.le_of_ble_eq_true rfl)) dX5_choose_127 ⟨Nat.le_of_ble_eq_true rfl, Nat.le_of_ble_eq_true rfl⟩) hP hD hS hFc [0] [1, 2, 3, 4, 5, 6, 7] rfl rfl (by decide +kernel) (by decide +kernel) (fun r_16 u H locs hw hP hD hS => ?_)
              try dsimp only at hw
              have hP : va_P (dC, dI) vwCl (W_X5_choose cyI cyJ cyO h_o a_o_howFar a_o_tones a_o_only a_o_fars a_o_cellAt a_o_ends a_o_seen a_o_begun o_last o_turnsLet o_slowsLet o_fuel o_glide w_6 w_7 w_8 o_foundNumber w_9 w_10 w_11 o_howFar o_tones o_only o_fars w_12 w_13 w_14) H := hP.sub [7, 0, 1, 2, 3, 4, 5, 6] rfl
              have hD : va_D A (W_X5_choose cyI cyJ cyO h_o a_o_howFar a_o_tones a_o_only a_o_fars a_o_cellAt a_o_ends a_o_seen a_o_begun o_last o_turnsLet o_slowsLet o_fuel o_glide w_6 w_7 w_8 o_foundNumber w_9 w_10 w_11 o_howFar o_tones o_only o_fars w_12 w_13 w_14) := hD.sub [7, 0, 1, 2, 3, 4, 5, 6] (by decide +kernel) rfl
              clear hPc hDc hFc
              refine lv_if_ne (tgt := 152) hx hb dX5_choose_130 (by decide) (fun c_17 => ?_) (fun c_17 => ?_)
              · replace hw := okF hw c_17
                clear c_17
                exact w152 v1 v2 v3 v4 v5 v6 v7 v8 v9 w_6 w_7 w_8 w_9 w_10 w_11 w_12 w_13 w_14 _ _ hP hD hS _ (lv_sub hl [0, 1, 2, 3, 4, 5, 6, 7, 8, 9] rfl) hw
              · replace hw := okT hw c_17
                clear c_17
                refine lv_aload_n hx hb dX5_choose_133 rfl (lv_at hl 0 rfl) ?_
                refine lv_iload_n hx hb dX5_choose_134 rfl (lv_at hl 1 rfl) ?_
                refine lv_iload hx hb dX5_choose_135 (lv_at hl 9 rfl) ?_
                refine lv_iload_n hx hb dX5_choose_137 rfl (lv_at hl 3 rfl) ?_
                refine lv_iconst (v := 1) hx hb dX5_choose_138 (by decide) ?_
                refine lv_isub hx hb dX5_choose_139 ?_
                refine lv_iload hx hb dX5_choose_140 (lv_at hl 4 rfl) ?_
                refine lv_iconst (v := 1) hx hb dX5_choose_142 (by decide) ?_
                refine lv_iadd hx hb dX5_choose_143 ?_
                refine lv_iconst (v := 1) hx hb dX5_choose_144 (by decide) ?_
                refine lv_iload hx hb dX5_choose_145 (lv_at hl 6 rfl) ?_
                refine lv_iload hx hb dX5_choose_147 (lv_at hl 7 rfl) ?_
                have hPc := hP.sub (ws' := (W_X5_fly cyI cyJ cyO h_o a_o_howFar a_o_tones a_o_only a_o_fars a_o_cellAt a_o_ends a_o_seen a_o_begun o_last o_turnsLet o_slowsLet o_fuel o_glide w_6 w_7 w_8 o_foundNumber w_9 w_10 w_11 o_howFar o_tones o_only o_fars w_12 w_13 w_14)) [0, 1, 2, 3, 4, 5, 6, 7] rfl
                have hDc := hD.sub (ws' := (W_X5_fly cyI cyJ cyO h_o a_o_howFar a_o_tones a_o_only a_o_fars a_o_cellAt a_o_ends a_o_seen a_o_begun o_last o_turnsLet o_slowsLet o_fuel o_glide w_6 w_7 w_8 o_foundNumber w_9 w_10 w_11 o_howFar o_tones o_only o_fars w_12 w_13 w_14)) [0, 1, 2, 3, 4, 5, 6, 7] (by decide +kernel) rfl
                have hFc := va_free (wc := (W_X5_fly cyI cyJ cyO h_o a_o_howFar a_o_tones a_o_only a_o_fars a_o_cellAt a_o_ends a_o_seen a_o_begun o_last o_turnsLet o_slowsLet o_fuel o_glide w_6 w_7 w_8 o_foundNumber w_9 w_10 w_11 o_howFar o_tones o_only o_fars w_12 w_13 w_14)) hD hS hA [0, 1, 2, 3, 4, 5, 6, 7] rfl
                refine kc_v (wr := []) (va_runV (As := [.int v1, .int v9, .int (v3 - 1), .int (v4 + 1), .int 1, .int v6, .int v7]) (rest := []) ⟨hx, hb, hml, hown, hts⟩ (ihf H.size tD tR tL tM h_o a_o_howFar a_o_tones a_o_only a_o_fars a_o_cellAt a_o_ends a_o_seen a_o_begun o_last o_turnsLet o_slowsLet o_fuel o_glide w_6 w_7 w_8 o_foundNumber w_9 w_10 w_11 o_howFar o_tones o_only o_fars w_12 w_13 w_14 v1 v9 (v3 - 1) (v4 + 1) 1 v6 v7 _ (okb9 hw)) (cwV 7 hts (gdV (fun w h => List.mem_cons_of_mem _ h) q_412 q_414 qs_10 q_3 q_415) rfl rfl rfl (by decide +kernel) ⟨(by show (rm_X5_fly d).frames + 1 ≤ (rm_X5_choose d).frames; simp only [rm_X5_fly, rm_X5_choose]; omega), (by show 8 + (13 + 11) + (rm_X5_fly d).locals ≤ (rm_X5_choose d).locals; simp only [rm_X5_fly, rm_X5_choose]; omega)⟩) ⟨(kpre zX_ok hK hPc hDc hZ hS hFc).1, va_recv hK hP (ci := 5) (q0 := 0) rfl rfl, (kpre zX_ok hK hPc hDc hZ hS hFc).2⟩ rfl rfl hl.1 rfl (lv_room (Nat.le_of_ble_eq_true rfl)) dX5_choose_149 ⟨Nat.le_of_ble_eq_true rfl, Nat.le_of_ble_eq_true rfl⟩) hP hD hS hFc [0, 1, 2, 3, 4, 5, 6, 7] [] rfl rfl (by decide +kernel) (by decide +kernel) (fun u H locs hw hP hD hS => ?_)
                obtain ⟨w_18, w_19, w_20, w_21, w_22, w_23, w_24, w_25, w_26⟩ := u
                try dsimp only at hw
                have hP : va_P (dC, dI) vwCl (W_X5_choose cyI cyJ cyO h_o a_o_howFar a_o_tones a_o_only a_o_fars a_o_cellAt a_o_ends a_o_seen a_o_begun o_last o_turnsLet o_slowsLet o_fuel o_glide w_18 w_19 w_20 o_foundNumber w_21 w_22 w_23 o_howFar o_tones o_only o_fars w_24 w_25 w_26) H := hP.sub [0, 1, 2, 3, 4, 5, 6, 7] rfl
                have hD : va_D A (W_X5_choose cyI cyJ cyO h_o a_o_howFar a_o_tones a_o_only a_o_fars a_o_cellAt a_o_ends a_o_seen a_o_begun o_last o_turnsLet o_slowsLet o_fuel o_glide w_18 w_19 w_20 o_foundNumber w_21 w_22 w_23 o_howFar o_tones o_only o_fars w_24 w_25 w_26) := hD.sub [0, 1, 2, 3, 4, 5, 6, 7] (by decide +kernel) rfl
                clear hPc hDc hFc
                exact w152 v1 v2 v3 v4 v5 v6 v7 v8 v9 w_18 w_19 w_20 w_21 w_22 w_23 w_24 w_25 w_26 _ _ hP hD hS _ (lv_sub hl [0, 1, 2, 3, 4, 5, 6, 7, 8, 9] rfl) hw
          · replace hw := okT hw c_5
            clear c_5
            refine lv_goto (tgt := 152) hx hb dX5_choose_100 (by decide) ?_
            exact w152 v1 v2 v3 v4 v5 v6 v7 v8 v9 o_count o_weightSum o_toPass o_foundWeight o_foundTurns o_foundSlowed o_cellAt o_ends o_seen _ _ hP hD hS _ (lv_sub hl [0, 1, 2, 3, 4, 5, 6, 7, 8, 9] rfl) hw
  have w67 : ∀ (v1 : Int32) (v2 : Int32) (v3 : Int32) (v4 : Int32) (v5 : Int32) (v6 : Int32) (v7 : Int32) (v8 : Int32) (o_count : Int32) (o_weightSum : Int64) (o_toPass : Int32) (o_foundWeight : Int32) (o_foundTurns : Int32) (o_foundSlowed : Int32) (o_cellAt : Nat → Int32) (o_ends : Nat → Int64) (o_seen : Nat → Int32) (H : Heap) (locs : List Loc), va_P (dC, dI) vwCl (W_X5_choose cyI cyJ cyO h_o a_o_howFar a_o_tones a_o_only a_o_fars a_o_cellAt a_o_ends a_o_seen a_o_begun o_last o_turnsLet o_slowsLet o_fuel o_glide o_count o_weightSum o_toPass o_foundNumber o_foundWeight o_foundTurns o_foundSlowed o_howFar o_tones o_only o_fars o_cellAt o_ends o_seen) H → va_D A (W_X5_choose cyI cyJ cyO h_o a_o_howFar a_o_tones a_o_only a_o_fars a_o_cellAt a_o_ends a_o_seen a_o_begun o_last o_turnsLet o_slowsLet o_fuel o_glide o_count o_weightSum o_toPass o_foundNumber o_foundWeight o_foundTurns o_foundSlowed o_howFar o_tones o_only o_fars o_cellAt o_ends o_seen) → va_S A s.heap H locs → ∀ (ls : Array Slot), lv_has ls 10 [(0, .ref h_o), (1, .int v1), (2, .int v2), (3, .int v3), (4, .int v4), (5, .int v5), (6, .int v6), (7, .int v7), (8, .int v8)] → okP (f_X5_choose_B67 (f_X5_fly d) v1 v2 v3 v4 v5 v6 v7 v8 o_last o_turnsLet o_slowsLet o_glide o_count o_weightSum o_toPass o_foundWeight o_foundTurns o_foundSlowed o_howFar o_tones o_only o_fars o_cellAt o_ends o_seen) post → W p l e (headSpec wsX5_choose (rm_X5_choose d)).room s m ([.ref h_o, .int x1, .int x2, .int x3, .int x4, .int x5, .int x6, .int x7] : List Value).toArray below meth c H locs 0 0 Q (F0 m 67 ls []) := by
    intro v1 v2 v3 v4 v5 v6 v7 v8 o_count o_weightSum o_toPass o_foundWeight o_foundTurns o_foundSlowed o_cellAt o_ends o_seen H locs hP hD hS ls hl hw
    unfold f_X5_choose_B67 at hw
    refine lv_iload hx hb dX5_choose_67 (lv_at hl 4 rfl) ?_
    refine lv_aload_n hx hb dX5_choose_69 rfl (lv_at hl 0 rfl) ?_
    refine va_get (D := (dC, dI)) (ci := 5) (v := .int o_turnsLet) (C := RX5) (T := TX5) (N := 20) hx hb hts hi5 hown hK hP 0 rfl rfl 5 (by decide) hq0 (fun _ h9 => h9) rfl dX5_choose_70 ?_
    refine lv_icmp_lt (tgt := 77) hx hb dX5_choose_73 (by decide) (fun c_27 => ?_) (fun c_27 => ?_)
    · replace hw := okT hw c_27
      clear c_27
      refine lv_iconst (v := 0) hx hb dX5_choose_77 (by decide) ?_
      refine lv_istore (lv' := [(9, .int 0), (0, .ref h_o), (1, .int v1), (2, .int v2), (3, .int v3), (4, .int v4), (5, .int v5), (6, .int v6), (7, .int v7), (8, .int v8)]) hx hb dX5_choose_78 hl (by decide) rfl (fun ls hl => ?_)
      exact w80 FU v1 v2 v3 v4 v5 v6 v7 v8 0 o_count o_weightSum o_toPass o_foundWeight o_foundTurns o_foundSlowed o_cellAt o_ends o_seen _ _ hP hD hS _ (lv_sub hl [1, 2, 3, 4, 5, 6, 7, 8, 9, 0] rfl) hw
    · replace hw := okF hw c_27
      clear c_27
      rw [hQ]
      exact W.vret hx hb hr (fun t ht hW => ⟨⟨(o_count, o_weightSum, o_toPass, o_foundWeight, o_foundTurns, o_foundSlowed, o_cellAt, o_ends, o_seen), rfl, okS hw, by rw [ht]; exact hP, va_K.moved hW.alike hK, hD⟩, hS.F ht⟩) hS.2.2 dX5_choose_76
  have w22 : ∀ (v1 : Int32) (v2 : Int32) (v3 : Int32) (v4 : Int32) (v5 : Int32) (v6 : Int32) (v7 : Int32) (y0 : Int32) (o_count : Int32) (o_weightSum : Int64) (o_toPass : Int32) (o_foundWeight : Int32) (o_foundTurns : Int32) (o_foundSlowed : Int32) (o_cellAt : Nat → Int32) (o_ends : Nat → Int64) (o_seen : Nat → Int32) (H : Heap) (locs : List Loc), va_P (dC, dI) vwCl (W_X5_choose cyI cyJ cyO h_o a_o_howFar a_o_tones a_o_only a_o_fars a_o_cellAt a_o_ends a_o_seen a_o_begun o_last o_turnsLet o_slowsLet o_fuel o_glide o_count o_weightSum o_toPass o_foundNumber o_foundWeight o_foundTurns o_foundSlowed o_howFar o_tones o_only o_fars o_cellAt o_ends o_seen) H → va_D A (W_X5_choose cyI cyJ cyO h_o a_o_howFar a_o_tones a_o_only a_o_fars a_o_cellAt a_o_ends a_o_seen a_o_begun o_last o_turnsLet o_slowsLet o_fuel o_glide o_count o_weightSum o_toPass o_foundNumber o_foundWeight o_foundTurns o_foundSlowed o_howFar o_tones o_only o_fars o_cellAt o_ends o_seen) → va_S A s.heap H locs → ∀ (ls : Array Slot), lv_has ls 10 [(0, .ref h_o), (1, .int v1), (2, .int v2), (3, .int v3), (4, .int v4), (5, .int v5), (6, .int v6), (7, .int v7)] → okP (f_X5_choose_B22 (f_X5_fly d) v1 v2 v3 v4 v5 v6 v7 y0 o_last o_turnsLet o_slowsLet o_glide o_count o_weightSum o_toPass o_foundWeight o_foundTurns o_foundSlowed o_howFar o_tones o_only o_fars o_cellAt o_ends o_seen) post → W p l e (headSpec wsX5_choose (rm_X5_choose d)).room s m ([.ref h_o, .int x1, .int x2, .int x3, .int x4, .int x5, .int x6, .int x7] : List Value).toArray below meth c H locs 0 0 Q (F0 m 22 ls [.int y0]) := by
    intro v1 v2 v3 v4 v5 v6 v7 y0 o_count o_weightSum o_toPass o_foundWeight o_foundTurns o_foundSlowed o_cellAt o_ends o_seen H locs hP hD hS ls hl hw
    unfold f_X5_choose_B22 at hw
    refine lv_istore (lv' := [(8, .int y0), (0, .ref h_o), (1, .int v1), (2, .int v2), (3, .int v3), (4, .int v4), (5, .int v5), (6, .int v6), (7, .int v7)]) hx hb dX5_choose_22 hl (by decide) rfl (fun ls hl => ?_)
    refine lv_aload_n hx hb dX5_choose_24 rfl (lv_at hl 1 rfl) ?_
    refine lv_iload_n hx hb dX5_choose_25 rfl (lv_at hl 2 rfl) ?_
    refine lv_iload_n hx hb dX5_choose_26 rfl (lv_at hl 3 rfl) ?_
    refine lv_iload_n hx hb dX5_choose_27 rfl (lv_at hl 4 rfl) ?_
    refine lv_iload hx hb dX5_choose_28 (lv_at hl 5 rfl) ?_
    refine lv_iload hx hb dX5_choose_30 (lv_at hl 6 rfl) ?_
    refine lv_iload hx hb dX5_choose_32 (lv_at hl 7 rfl) ?_
    refine lv_iload hx hb dX5_choose_34 (lv_at hl 8 rfl) ?_
    have hPc := hP.sub (ws' := (W_X5_fly cyI cyJ cyO h_o a_o_howFar a_o_tones a_o_only a_o_fars a_o_cellAt a_o_ends a_o_seen a_o_begun o_last o_turnsLet o_slowsLet o_fuel o_glide o_count o_weightSum o_toPass o_foundNumber o_foundWeight o_foundTurns o_foundSlowed o_howFar o_tones o_only o_fars o_cellAt o_ends o_seen)) [0, 1, 2, 3, 4, 5, 6, 7] rfl
    have hDc := hD.sub (ws' := (W_X5_fly cyI cyJ cyO h_o a_o_howFar a_o_tones a_o_only a_o_fars a_o_cellAt a_o_ends a_o_seen a_o_begun o_last o_turnsLet o_slowsLet o_fuel o_glide o_count o_weightSum o_toPass o_foundNumber o_foundWeight o_foundTurns o_foundSlowed o_howFar o_tones o_only o_fars o_cellAt o_ends o_seen)) [0, 1, 2, 3, 4, 5, 6, 7] (by decide +kernel) rfl
    have hFc := va_free (wc := (W_X5_fly cyI cyJ cyO h_o a_o_howFar a_o_tones a_o_only a_o_fars a_o_cellAt a_o_ends a_o_seen a_o_begun o_last o_turnsLet o_slowsLet o_fuel o_glide o_count o_weightSum o_toPass o_foundNumber o_foundWeight o_foundTurns o_foundSlowed o_howFar o_tones o_only o_fars o_cellAt o_ends o_seen)) hD hS hA [0, 1, 2, 3, 4, 5, 6, 7] rfl
    refine kc_v (wr := []) (va_runV (As := [.int v1, .int v2, .int v3, .int v4, .int v5, .int v6, .int v7]) (rest := []) ⟨hx, hb, hml, hown, hts⟩ (ihf H.size tD tR tL tM h_o a_o_howFar a_o_tones a_o_only a_o_fars a_o_cellAt a_o_ends a_o_seen a_o_begun o_last o_turnsLet o_slowsLet o_fuel o_glide o_count o_weightSum o_toPass o_foundNumber o_foundWeight o_foundTurns o_foundSlowed o_howFar o_tones o_only o_fars o_cellAt o_ends o_seen v1 v2 v3 v4 v5 v6 v7 _ (okb9 hw)) (cwV 7 hts (gdV (fun w h => List.mem_cons_of_mem _ h) q_412 q_414 qs_10 q_3 q_415) rfl rfl rfl (by decide +kernel) ⟨(by show (rm_X5_fly d).frames + 1 ≤ (rm_X5_choose d).frames; simp only [rm_X5_fly, rm_X5_choose]; omega), (by show 8 + (13 + 11) + (rm_X5_fly d).locals ≤ (rm_X5_choose d).locals; simp only [rm_X5_fly, rm_X5_choose]; omega)⟩) ⟨(kpre zX_ok hK hPc hDc hZ hS hFc).1, va_recv hK hP (ci := 5) (q0 := 0) rfl rfl, (kpre zX_ok hK hPc hDc hZ hS hFc).2⟩ rfl rfl hl.1 rfl (lv_room (Nat.le_of_ble_eq_true rfl)) dX5_choose_36 ⟨Nat.le_of_ble_eq_true rfl, Nat.le_of_ble_eq_true rfl⟩) hP hD hS hFc [0, 1, 2, 3, 4, 5, 6, 7] [] rfl rfl (by decide +kernel) (by decide +kernel) (fun u H locs hw hP hD hS => ?_)
    obtain ⟨w_28, w_29, w_30, w_31, w_32, w_33, w_34, w_35, w_36⟩ := u
    try dsimp only at hw
    have hP : va_P (dC, dI) vwCl (W_X5_choose cyI cyJ cyO h_o a_o_howFar a_o_tones a_o_only a_o_fars a_o_cellAt a_o_ends a_o_seen a_o_begun o_last o_turnsLet o_slowsLet o_fuel o_glide w_28 w_29 w_30 o_foundNumber w_31 w_32 w_33 o_howFar o_tones o_only o_fars w_34 w_35 w_36) H := hP.sub [0, 1, 2, 3, 4, 5, 6, 7] rfl
    have hD : va_D A (W_X5_choose cyI cyJ cyO h_o a_o_howFar a_o_tones a_o_only a_o_fars a_o_cellAt a_o_ends a_o_seen a_o_begun o_last o_turnsLet o_slowsLet o_fuel o_glide w_28 w_29 w_30 o_foundNumber w_31 w_32 w_33 o_howFar o_tones o_only o_fars w_34 w_35 w_36) := hD.sub [0, 1, 2, 3, 4, 5, 6, 7] (by decide +kernel) rfl
    clear hPc hDc hFc
    refine lv_iload hx hb dX5_choose_39 (lv_at hl 0 rfl) ?_
    refine lv_if_eq (tgt := 67) hx hb dX5_choose_41 (by decide) (fun c_37 => ?_) (fun c_37 => ?_)
    · replace hw := okT hw c_37
      clear c_37
      exact w67 v1 v2 v3 v4 v5 v6 v7 y0 w_28 w_29 w_30 w_31 w_32 w_33 w_34 w_35 w_36 _ _ hP hD hS _ (lv_sub hl [1, 2, 3, 4, 5, 6, 7, 8, 0] rfl) hw
    · replace hw := okF hw c_37
      clear c_37
      refine lv_aload_n hx hb dX5_choose_44 rfl (lv_at hl 1 rfl) ?_
      have hPc := hP.sub (ws' := (W_X5_isFound cyI cyJ cyO h_o a_o_howFar a_o_tones a_o_only a_o_fars a_o_cellAt a_o_ends a_o_seen a_o_begun o_last o_turnsLet o_slowsLet o_fuel o_glide w_28 w_29 w_30 o_foundNumber w_31 w_32 w_33)) [0] rfl
      have hDc := hD.sub (ws' := (W_X5_isFound cyI cyJ cyO h_o a_o_howFar a_o_tones a_o_only a_o_fars a_o_cellAt a_o_ends a_o_seen a_o_begun o_last o_turnsLet o_slowsLet o_fuel o_glide w_28 w_29 w_30 o_foundNumber w_31 w_32 w_33)) [0] (by decide +kernel) rfl
      have hFc := va_free (wc := (W_X5_isFound cyI cyJ cyO h_o a_o_howFar a_o_tones a_o_only a_o_fars a_o_cellAt a_o_ends a_o_seen a_o_begun o_last o_turnsLet o_slowsLet o_fuel o_glide w_28 w_29 w_30 o_foundNumber w_31 w_32 w_33)) hD hS hA [0] rfl
      refine kc_i (wr := [(a_o_howFar, .inl (cyI, 7, .inl o_howFar)), (a_o_tones, .inl (cyI, 7, .inl o_tones)), (a_o_only, .inl (cyI, 7, .inl o_only)), (a_o_fars, .inl (cyI, 100, .inl o_fars)), (a_o_cellAt, .inl (cyI, 7, .inl w_34)), (a_o_ends, .inl (cyJ, 100, .inr (.inl w_35))), (a_o_seen, .inl (cyI, 70, .inl w_36))]) (va_runV (As := []) (rest := []) ⟨hx, hb, hml, hown, hts⟩ (c_X5_isFound l dC dI cyI cyJ cyO H.size h_o a_o_howFar a_o_tones a_o_only a_o_fars a_o_cellAt a_o_ends a_o_seen a_o_begun o_last o_turnsLet o_slowsLet o_fuel o_glide w_28 w_29 w_30 o_foundNumber w_31 w_32 w_33 _ (okb1 hw)) (cwV 0 hts (gdV (fun w h => List.mem_cons_of_mem _ h) q_443 q_445 qs_15 q_3 q_446) rfl rfl rfl (by decide +kernel) ⟨(by show 0 + 1 ≤ (rm_X5_choose d).frames; simp only [rm_X5_fly, rm_X5_choose]; omega), (by show 8 + (1 + 11) + 0 ≤ (rm_X5_choose d).locals; simp only [rm_X5_fly, rm_X5_choose]; omega)⟩) ⟨(kpre zN_ok hK hPc hDc trivial hS hFc).1, va_recv hK hP (ci := 5) (q0 := 0) rfl rfl, (kpre zN_ok hK hPc hDc trivial hS hFc).2⟩ rfl rfl hl.1 rfl (lv_room (Nat.le_of_ble_eq_true rfl)) dX5_choose_45 ⟨Nat.le_of_ble_eq_true rfl, Nat.le_of_ble_eq_true rfl⟩) hP hD hS hFc [0] [1, 2, 3, 4, 5, 6, 7] rfl rfl (by decide +kernel) (by decide +kernel) (fun r_38 u H locs hw hP hD hS => ?_)
      try dsimp only at hw
      have hP : va_P (dC, dI) vwCl (W_X5_choose cyI cyJ cyO h_o a_o_howFar a_o_tones a_o_only a_o_fars a_o_cellAt a_o_ends a_o_seen a_o_begun o_last o_turnsLet o_slowsLet o_fuel o_glide w_28 w_29 w_30 o_foundNumber w_31 w_32 w_33 o_howFar o_tones o_only o_fars w_34 w_35 w_36) H := hP.sub [7, 0, 1, 2, 3, 4, 5, 6] rfl
      have hD : va_D A (W_X5_choose cyI cyJ cyO h_o a_o_howFar a_o_tones a_o_only a_o_fars a_o_cellAt a_o_ends a_o_seen a_o_begun o_last o_turnsLet o_slowsLet o_fuel o_glide w_28 w_29 w_30 o_foundNumber w_31 w_32 w_33 o_howFar o_tones o_only o_fars w_34 w_35 w_36) := hD.sub [7, 0, 1, 2, 3, 4, 5, 6] (by decide +kernel) rfl
      clear hPc hDc hFc
      refine lv_if_ne (tgt := 67) hx hb dX5_choose_48 (by decide) (fun c_39 => ?_) (fun c_39 => ?_)
      · replace hw := okF hw c_39
        clear c_39
        exact w67 v1 v2 v3 v4 v5 v6 v7 y0 w_28 w_29 w_30 w_31 w_32 w_33 w_34 w_35 w_36 _ _ hP hD hS _ (lv_sub hl [1, 2, 3, 4, 5, 6, 7, 8, 0] rfl) hw
      · replace hw := okT hw c_39
        clear c_39
        refine lv_aload_n hx hb dX5_choose_51 rfl (lv_at hl 1 rfl) ?_
        refine lv_iload_n hx hb dX5_choose_52 rfl (lv_at hl 2 rfl) ?_
        refine lv_iload_n hx hb dX5_choose_53 rfl (lv_at hl 3 rfl) ?_
        refine lv_iload_n hx hb dX5_choose_54 rfl (lv_at hl 4 rfl) ?_
        refine lv_iconst (v := 1) hx hb dX5_choose_55 (by decide) ?_
        refine lv_isub hx hb dX5_choose_56 ?_
        refine lv_iload hx hb dX5_choose_57 (lv_at hl 5 rfl) ?_
        refine lv_iconst (v := 1) hx hb dX5_choose_59 (by decide) ?_
        refine lv_iload hx hb dX5_choose_60 (lv_at hl 7 rfl) ?_
        refine lv_iload hx hb dX5_choose_62 (lv_at hl 8 rfl) ?_
        have hPc := hP.sub (ws' := (W_X5_fly cyI cyJ cyO h_o a_o_howFar a_o_tones a_o_only a_o_fars a_o_cellAt a_o_ends a_o_seen a_o_begun o_last o_turnsLet o_slowsLet o_fuel o_glide w_28 w_29 w_30 o_foundNumber w_31 w_32 w_33 o_howFar o_tones o_only o_fars w_34 w_35 w_36)) [0, 1, 2, 3, 4, 5, 6, 7] rfl
        have hDc := hD.sub (ws' := (W_X5_fly cyI cyJ cyO h_o a_o_howFar a_o_tones a_o_only a_o_fars a_o_cellAt a_o_ends a_o_seen a_o_begun o_last o_turnsLet o_slowsLet o_fuel o_glide w_28 w_29 w_30 o_foundNumber w_31 w_32 w_33 o_howFar o_tones o_only o_fars w_34 w_35 w_36)) [0, 1, 2, 3, 4, 5, 6, 7] (by decide +kernel) rfl
        have hFc := va_free (wc := (W_X5_fly cyI cyJ cyO h_o a_o_howFar a_o_tones a_o_only a_o_fars a_o_cellAt a_o_ends a_o_seen a_o_begun o_last o_turnsLet o_slowsLet o_fuel o_glide w_28 w_29 w_30 o_foundNumber w_31 w_32 w_33 o_howFar o_tones o_only o_fars w_34 w_35 w_36)) hD hS hA [0, 1, 2, 3, 4, 5, 6, 7] rfl
        refine kc_v (wr := []) (va_runV (As := [.int v1, .int v2, .int (v3 - 1), .int v4, .int 1, .int v6, .int v7]) (rest := []) ⟨hx, hb, hml, hown, hts⟩ (ihf H.size tD tR tL tM h_o a_o_howFar a_o_tones a_o_only a_o_fars a_o_cellAt a_o_ends a_o_seen a_o_begun o_last o_turnsLet o_slowsLet o_fuel o_glide w_28 w_29 w_30 o_foundNumber w_31 w_32 w_33 o_howFar o_tones o_only o_fars w_34 w_35 w_36 v1 v2 (v3 - 1) v4 1 v6 v7 _ (okb9 hw)) (cwV 7 hts (gdV (fun w h => List.mem_cons_of_mem _ h) q_412 q_414 qs_10 q_3 q_415) rfl rfl rfl (by decide +kernel) ⟨(by show (rm_X5_fly d).frames + 1 ≤ (rm_X5_choose d).frames; simp only [rm_X5_fly, rm_X5_choose]; omega), (by show 8 + (13 + 11) + (rm_X5_fly d).locals ≤ (rm_X5_choose d).locals; simp only [rm_X5_fly, rm_X5_choose]; omega)⟩) ⟨(kpre zX_ok hK hPc hDc hZ hS hFc).1, va_recv hK hP (ci := 5) (q0 := 0) rfl rfl, (kpre zX_ok hK hPc hDc hZ hS hFc).2⟩ rfl rfl hl.1 rfl (lv_room (Nat.le_of_ble_eq_true rfl)) dX5_choose_64 ⟨Nat.le_of_ble_eq_true rfl, Nat.le_of_ble_eq_true rfl⟩) hP hD hS hFc [0, 1, 2, 3, 4, 5, 6, 7] [] rfl rfl (by decide +kernel) (by decide +kernel) (fun u H locs hw hP hD hS => ?_)
        obtain ⟨w_40, w_41, w_42, w_43, w_44, w_45, w_46, w_47, w_48⟩ := u
        try dsimp only at hw
        have hP : va_P (dC, dI) vwCl (W_X5_choose cyI cyJ cyO h_o a_o_howFar a_o_tones a_o_only a_o_fars a_o_cellAt a_o_ends a_o_seen a_o_begun o_last o_turnsLet o_slowsLet o_fuel o_glide w_40 w_41 w_42 o_foundNumber w_43 w_44 w_45 o_howFar o_tones o_only o_fars w_46 w_47 w_48) H := hP.sub [0, 1, 2, 3, 4, 5, 6, 7] rfl
        have hD : va_D A (W_X5_choose cyI cyJ cyO h_o a_o_howFar a_o_tones a_o_only a_o_fars a_o_cellAt a_o_ends a_o_seen a_o_begun o_last o_turnsLet o_slowsLet o_fuel o_glide w_40 w_41 w_42 o_foundNumber w_43 w_44 w_45 o_howFar o_tones o_only o_fars w_46 w_47 w_48) := hD.sub [0, 1, 2, 3, 4, 5, 6, 7] (by decide +kernel) rfl
        clear hPc hDc hFc
        exact w67 v1 v2 v3 v4 v5 v6 v7 y0 w_40 w_41 w_42 w_43 w_44 w_45 w_46 w_47 w_48 _ _ hP hD hS _ (lv_sub hl [1, 2, 3, 4, 5, 6, 7, 8, 0] rfl) hw
  have w21 : ∀ (v1 : Int32) (v2 : Int32) (v3 : Int32) (v4 : Int32) (v5 : Int32) (v6 : Int32) (v7 : Int32) (o_count : Int32) (o_weightSum : Int64) (o_toPass : Int32) (o_foundWeight : Int32) (o_foundTurns : Int32) (o_foundSlowed : Int32) (o_cellAt : Nat → Int32) (o_ends : Nat → Int64) (o_seen : Nat → Int32) (H : Heap) (locs : List Loc), va_P (dC, dI) vwCl (W_X5_choose cyI cyJ cyO h_o a_o_howFar a_o_tones a_o_only a_o_fars a_o_cellAt a_o_ends a_o_seen a_o_begun o_last o_turnsLet o_slowsLet o_fuel o_glide o_count o_weightSum o_toPass o_foundNumber o_foundWeight o_foundTurns o_foundSlowed o_howFar o_tones o_only o_fars o_cellAt o_ends o_seen) H → va_D A (W_X5_choose cyI cyJ cyO h_o a_o_howFar a_o_tones a_o_only a_o_fars a_o_cellAt a_o_ends a_o_seen a_o_begun o_last o_turnsLet o_slowsLet o_fuel o_glide o_count o_weightSum o_toPass o_foundNumber o_foundWeight o_foundTurns o_foundSlowed o_howFar o_tones o_only o_fars o_cellAt o_ends o_seen) → va_S A s.heap H locs → ∀ (ls : Array Slot), lv_has ls 10 [(0, .ref h_o), (1, .int v1), (2, .int v2), (3, .int v3), (4, .int v4), (5, .int v5), (6, .int v6), (7, .int v7)] → okP (f_X5_choose_B21 (f_X5_fly d) v1 v2 v3 v4 v5 v6 v7 o_last o_turnsLet o_slowsLet o_glide o_count o_weightSum o_toPass o_foundWeight o_foundTurns o_foundSlowed o_howFar o_tones o_only o_fars o_cellAt o_ends o_seen) post → W p l e (headSpec wsX5_choose (rm_X5_choose d)).room s m ([.ref h_o, .int x1, .int x2, .int x3, .int x4, .int x5, .int x6, .int x7] : List Value).toArray below meth c H locs 0 0 Q (F0 m 21 ls []) := by
    intro v1 v2 v3 v4 v5 v6 v7 o_count o_weightSum o_toPass o_foundWeight o_foundTurns o_foundSlowed o_cellAt o_ends o_seen H locs hP hD hS ls hl hw
    unfold f_X5_choose_B21 at hw
    refine lv_iconst (v := 0) hx hb dX5_choose_21 (by decide) ?_
    exact w22 v1 v2 v3 v4 v5 v6 v7 0 o_count o_weightSum o_toPass o_foundWeight o_foundTurns o_foundSlowed o_cellAt o_ends o_seen _ _ hP hD hS _ (lv_sub hl [0, 1, 2, 3, 4, 5, 6, 7] rfl) hw
  unfold f_X5_choose at hw
  have hP : va_P (dC, dI) vwCl (W_X5_choose cyI cyJ cyO h_o a_o_howFar a_o_tones a_o_only a_o_fars a_o_cellAt a_o_ends a_o_seen a_o_begun o_last o_turnsLet o_slowsLet o_fuel o_glide o_count o_weightSum o_toPass o_foundNumber o_foundWeight o_foundTurns o_foundSlowed o_howFar o_tones o_only o_fars o_cellAt o_ends o_seen) s.heap := hP
  obtain ⟨H, hH⟩ : ∃ H, H = s.heap := ⟨_, rfl⟩
  obtain ⟨locs, hlo⟩ : ∃ x : List Loc, x = [] := ⟨_, rfl⟩
  have hP : va_P (dC, dI) vwCl (W_X5_choose cyI cyJ cyO h_o a_o_howFar a_o_tones a_o_only a_o_fars a_o_cellAt a_o_ends a_o_seen a_o_begun o_last o_turnsLet o_slowsLet o_fuel o_glide o_count o_weightSum o_toPass o_foundNumber o_foundWeight o_foundTurns o_foundSlowed o_howFar o_tones o_only o_fars o_cellAt o_ends o_seen) H := by rw [hH]; exact hP
  have hS : va_S A s.heap H locs := by rw [hH, hlo]; exact hS
  refine kH hH hlo ?_
  clear hH hlo
  refine lv_aload_n hx hb dX5_choose_0 rfl (lv_at hl 0 rfl) ?_
  refine va_get (D := (dC, dI)) (ci := 5) (v := .int o_slowsLet) (C := RX5) (T := TX5) (N := 20) hx hb hts hi5 hown hK hP 0 rfl rfl 6 (by decide) hq2 (fun _ h9 => h9) rfl dX5_choose_1 ?_
  refine lv_if_eq (tgt := 21) hx hb dX5_choose_4 (by decide) (fun c_49 => ?_) (fun c_49 => ?_)
  · replace hw := okT hw c_49
    clear c_49
    exact w21 x1 x2 x3 x4 x5 x6 x7 o_count o_weightSum o_toPass o_foundWeight o_foundTurns o_foundSlowed o_cellAt o_ends o_seen _ _ hP hD hS _ (lv_sub hl [0, 1, 2, 3, 4, 5, 6, 7] rfl) hw
  · replace hw := okF hw c_49
    clear c_49
    refine lv_iload hx hb dX5_choose_7 (lv_at hl 5 rfl) ?_
    refine lv_if_ne (tgt := 21) hx hb dX5_choose_9 (by decide) (fun c_50 => ?_) (fun c_50 => ?_)
    · replace hw := okF hw c_50
      clear c_50
      exact w21 x1 x2 x3 x4 x5 x6 x7 o_count o_weightSum o_toPass o_foundWeight o_foundTurns o_foundSlowed o_cellAt o_ends o_seen _ _ hP hD hS _ (lv_sub hl [0, 1, 2, 3, 4, 5, 6, 7] rfl) hw
    · replace hw := okT hw c_50
      clear c_50
      refine lv_iload_n hx hb dX5_choose_12 rfl (lv_at hl 3 rfl) ?_
      refine lv_iconst (v := 1) hx hb dX5_choose_13 (by decide) ?_
      refine lv_icmp_le (tgt := 21) hx hb dX5_choose_14 (by decide) (fun c_51 => ?_) (fun c_51 => ?_)
      · replace hw := okT hw c_51
        clear c_51
        exact w21 x1 x2 x3 x4 x5 x6 x7 o_count o_weightSum o_toPass o_foundWeight o_foundTurns o_foundSlowed o_cellAt o_ends o_seen _ _ hP hD hS _ (lv_sub hl [0, 1, 2, 3, 4, 5, 6, 7] rfl) hw
      · replace hw := okF hw c_51
        clear c_51
        refine lv_iconst (v := 1) hx hb dX5_choose_17 (by decide) ?_
        refine lv_goto (tgt := 22) hx hb dX5_choose_18 (by decide) ?_
        exact w22 x1 x2 x3 x4 x5 x6 x7 1 o_count o_weightSum o_toPass o_foundWeight o_foundTurns o_foundSlowed o_cellAt o_ends o_seen _ _ hP hD hS _ (lv_sub hl [0, 1, 2, 3, 4, 5, 6, 7] rfl) hw
set_option maxRecDepth 100000 in
set_option maxHeartbeats 4000000 in
theorem c_X5_flyA (l : Launch) (dC : Nat → ClassId) (dI : Nat → Nat → Nat) (cyI cyJ cyO : ClassId) : ∀ d, FlyC l dC dI cyI cyJ cyO d := by
  intro d
  induction d with
  | zero =>
    intro sz tD tR tL tM h_o a_o_howFar a_o_tones a_o_only a_o_fars a_o_cellAt a_o_ends a_o_seen a_o_begun o_last o_turnsLet o_slowsLet o_fuel o_glide o_count o_weightSum o_toPass o_foundNumber o_foundWeight o_foundTurns o_foundSlowed o_howFar o_tones o_only o_fars o_cellAt o_ends o_seen x1 x2 x3 x4 x5 x6 x7 post hf
    exact (ok0 hf).elim
  | succ d ih =>
    intro sz tD tR tL tM h_o a_o_howFar a_o_tones a_o_only a_o_fars a_o_cellAt a_o_ends a_o_seen a_o_begun o_last o_turnsLet o_slowsLet o_fuel o_glide o_count o_weightSum o_toPass o_foundNumber o_foundWeight o_foundTurns o_foundSlowed o_howFar o_tones o_only o_fars o_cellAt o_ends o_seen x1 x2 x3 x4 x5 x6 x7 post hf
    refine Met.ofW (cc := cX5_fly) (maxL := 13) (ret := none) (by decide) rfl ?_
    intro p e s m args below meth c s₁ B hml hv
    obtain ⟨rfl, hsz, hP, hK, hD0, hZ⟩ := hv
    have hx := B.exec
    have hb := B.bytes
    have hr := B.returns
    have hts := atoms_spec (ws := wsX5_fly) B.pre
    have hown : s.vm.findClass RX5 = some m.cls := findClass_of_methodNamed B.named
    have hlocks := B.notSynchronized
    subst hsz
    have hD := hD0.self (sz := s.heap.size)
    generalize hAe : va_A (W_X5_fly cyI cyJ cyO h_o a_o_howFar a_o_tones a_o_only a_o_fars a_o_cellAt a_o_ends a_o_seen a_o_begun o_last o_turnsLet o_slowsLet o_fuel o_glide o_count o_weightSum o_toPass o_foundNumber o_foundWeight o_foundTurns o_foundSlowed o_howFar o_tones o_only o_fars o_cellAt o_ends o_seen) s.heap.size = A at hD hZ ⊢
    have hA : ∀ q : Nat, s.heap.size ≤ q → A q := fun q h => by rw [← hAe]; exact Or.inr h
    clear hAe hD0
    have hS : va_S A s.heap s.heap [] := va_S.rf
    have hl := lv_entry ([.ref h_o, .int x1, .int x2, .int x3, .int x4, .int x5, .int x6, .int x7]) (n := 13) (Nat.le_of_ble_eq_true rfl)
    rw [lg_entry_eq]
    generalize (lg_sl ([.ref h_o, .int x1, .int x2, .int x3, .int x4, .int x5, .int x6, .int x7]) ++ List.replicate (13 - (lg_sl ([.ref h_o, .int x1, .int x2, .int x3, .int x4, .int x5, .int x6, .int x7])).length) Slot.unset).toArray = ls at hl ⊢
    have hl : lv_has ls 13 [(0, .ref h_o), (1, .int x1), (2, .int x2), (3, .int x3), (4, .int x4), (5, .int x5), (6, .int x6), (7, .int x7)] := hl
    refine kW (fun Q hQ => ?_)
    have hq0 := hts _ (List.mem_cons_of_mem _ q_133)
    have hi5 : ∀ w ∈ u_ws RX5 TX5 20, w ∈ wsX5_fly := fun w h => List.mem_cons_of_mem _ (inX5 w h)
    have hq2 := hts _ (List.mem_cons_of_mem _ q_121)
    have hq3 := hts _ (List.mem_cons_of_mem _ q_126)
    have hq4 := hts _ (List.mem_cons_of_mem _ q_1)
    have hq5 := hts _ (List.mem_cons_of_mem _ q_417)
    have hq6 := hts _ (List.mem_cons_of_mem _ q_333)
    have hq7 := hts _ (List.mem_cons_of_mem _ q_120)
    have hw : okP (f_X5_flyb (f_X5_fly d) x1 x2 x3 x4 x5 x6 x7 o_last o_turnsLet o_slowsLet o_glide o_count o_weightSum o_toPass o_foundWeight o_foundTurns o_foundSlowed o_howFar o_tones o_only o_fars o_cellAt o_ends o_seen) post := hf
    have w175 : ∀ (v1 : Int32) (v10 : Int32) (v12 : Int32) (o_count : Int32) (o_weightSum : Int64) (o_toPass : Int32) (o_foundWeight : Int32) (o_foundTurns : Int32) (o_foundSlowed : Int32) (o_cellAt : Nat → Int32) (o_ends : Nat → Int64) (o_seen : Nat → Int32) (H : Heap) (locs : List Loc), va_P (dC, dI) vwCl (W_X5_fly cyI cyJ cyO h_o a_o_howFar a_o_tones a_o_only a_o_fars a_o_cellAt a_o_ends a_o_seen a_o_begun o_last o_turnsLet o_slowsLet o_fuel o_glide o_count o_weightSum o_toPass o_foundNumber o_foundWeight o_foundTurns o_foundSlowed o_howFar o_tones o_only o_fars o_cellAt o_ends o_seen) H → va_D A (W_X5_fly cyI cyJ cyO h_o a_o_howFar a_o_tones a_o_only a_o_fars a_o_cellAt a_o_ends a_o_seen a_o_begun o_last o_turnsLet o_slowsLet o_fuel o_glide o_count o_weightSum o_toPass o_foundNumber o_foundWeight o_foundTurns o_foundSlowed o_howFar o_tones o_only o_fars o_cellAt o_ends o_seen) → va_S A s.heap H locs → ∀ (ls : Array Slot), lv_has ls 13 [(0, .ref h_o), (1, .int v1), (10, .int v10), (12, .int v12)] → okP (f_X5_fly_B175 (f_X5_fly d) v1 v10 v12 o_last o_turnsLet o_slowsLet o_glide o_count o_weightSum o_toPass o_foundWeight o_foundTurns o_foundSlowed o_howFar o_tones o_only o_fars o_cellAt o_ends o_seen) post → W p l e (headSpec wsX5_fly (rm_X5_fly (d + 1))).room s m ([.ref h_o, .int x1, .int x2, .int x3, .int x4, .int x5, .int x6, .int x7] : List Value).toArray below meth c H locs 0 0 Q (F0 m 175 ls []) := by
      intro v1 v10 v12 o_count o_weightSum o_toPass o_foundWeight o_foundTurns o_foundSlowed o_cellAt o_ends o_seen H locs hP hD hS ls hl hw
      unfold f_X5_fly_B175 at hw
      refine lv_aload_n hx hb dX5_fly_175 rfl (lv_at hl 0 rfl) ?_
      refine va_get (D := (dC, dI)) (ci := 5) (v := .int o_count) (C := RX5) (T := TX5) (N := 20) hx hb hts hi5 hown hK hP 0 rfl rfl 13 (by decide) hq0 (fun _ h9 => h9) rfl dX5_fly_176 ?_
      refine lv_iload hx hb dX5_fly_179 (lv_at hl 3 rfl) ?_
      refine lv_icmp_le (tgt := 193) hx hb dX5_fly_181 (by decide) (fun c_1 => ?_) (fun c_1 => ?_)
      · replace hw := okT hw c_1
        clear c_1
        rw [hQ]
        exact W.vret hx hb hr (fun t ht hW => ⟨⟨(o_count, o_weightSum, o_toPass, o_foundWeight, o_foundTurns, o_foundSlowed, o_cellAt, o_ends, o_seen), rfl, okS hw, by rw [ht]; exact hP, va_K.moved hW.alike hK, hD⟩, hS.F ht⟩) hS.2.2 dX5_fly_193
      · replace hw := okF hw c_1
        clear c_1
        refine lv_aload_n hx hb dX5_fly_184 rfl (lv_at hl 0 rfl) ?_
        refine lv_iload_n hx hb dX5_fly_185 rfl (lv_at hl 1 rfl) ?_
        refine lv_iconst (v := 1) hx hb dX5_fly_186 (by decide) ?_
        refine lv_iadd hx hb dX5_fly_187 ?_
        refine lv_iload hx hb dX5_fly_188 (lv_at hl 2 rfl) ?_
        have hPc := hP.sub (ws' := (W_X5_see cyI cyJ cyO h_o a_o_howFar a_o_tones a_o_only a_o_fars a_o_cellAt a_o_ends a_o_seen a_o_begun o_last o_turnsLet o_slowsLet o_fuel o_glide o_count o_weightSum o_toPass o_foundNumber o_foundWeight o_foundTurns o_foundSlowed o_seen)) [0, 7] rfl
        have hDc := hD.sub (ws' := (W_X5_see cyI cyJ cyO h_o a_o_howFar a_o_tones a_o_only a_o_fars a_o_cellAt a_o_ends a_o_seen a_o_begun o_last o_turnsLet o_slowsLet o_fuel o_glide o_count o_weightSum o_toPass o_foundNumber o_foundWeight o_foundTurns o_foundSlowed o_seen)) [0, 7] (by decide +kernel) rfl
        have hFc := va_free (wc := (W_X5_see cyI cyJ cyO h_o a_o_howFar a_o_tones a_o_only a_o_fars a_o_cellAt a_o_ends a_o_seen a_o_begun o_last o_turnsLet o_slowsLet o_fuel o_glide o_count o_weightSum o_toPass o_foundNumber o_foundWeight o_foundTurns o_foundSlowed o_seen)) hD hS hA [0, 7] rfl
        refine kc_v (wr := [(a_o_howFar, .inl (cyI, 7, .inl o_howFar)), (a_o_tones, .inl (cyI, 7, .inl o_tones)), (a_o_only, .inl (cyI, 7, .inl o_only)), (a_o_fars, .inl (cyI, 100, .inl o_fars)), (a_o_cellAt, .inl (cyI, 7, .inl o_cellAt)), (a_o_ends, .inl (cyJ, 100, .inr (.inl o_ends)))]) (va_runV (As := [.int (v1 + 1), .int v10]) (rest := []) ⟨hx, hb, hml, hown, hts⟩ (c_X5_see l dC dI cyI cyJ cyO H.size h_o a_o_howFar a_o_tones a_o_only a_o_fars a_o_cellAt a_o_ends a_o_seen a_o_begun o_last o_turnsLet o_slowsLet o_fuel o_glide o_count o_weightSum o_toPass o_foundNumber o_foundWeight o_foundTurns o_foundSlowed o_seen (v1 + 1) v10 _ (okb1 hw)) (cwV 2 hts (gdV (fun w h => List.mem_cons_of_mem _ h) q_447 q_449 qs_16 q_3 q_450) rfl rfl rfl (by decide +kernel) ⟨(by show 0 + 1 ≤ (rm_X5_fly (d + 1)).frames; simp only [rm_X5_fly, rm_X5_choose]; omega), (by show 8 + (3 + 11) + 0 ≤ (rm_X5_fly (d + 1)).locals; simp only [rm_X5_fly, rm_X5_choose]; omega)⟩) ⟨(kpre zN_ok hK hPc hDc trivial hS hFc).1, va_recv hK hP (ci := 5) (q0 := 0) rfl rfl, (kpre zN_ok hK hPc hDc trivial hS hFc).2⟩ rfl rfl hl.1 rfl (lv_room (Nat.le_of_ble_eq_true rfl)) dX5_fly_190 ⟨Nat.le_of_ble_eq_true rfl, Nat.le_of_ble_eq_true rfl⟩) hP hD hS hFc [0, 7] [1, 2, 3, 4, 5, 6] rfl rfl (by decide +kernel) (by decide +kernel) (fun w_2 H locs hw hP hD hS => ?_)
        try dsimp only at hw
        have hP : va_P (dC, dI) vwCl (W_X5_fly cyI cyJ cyO h_o a_o_howFar a_o_tones a_o_only a_o_fars a_o_cellAt a_o_ends a_o_seen a_o_begun o_last o_turnsLet o_slowsLet o_fuel o_glide o_count o_weightSum o_toPass o_foundNumber o_foundWeight o_foundTurns o_foundSlowed o_howFar o_tones o_only o_fars o_cellAt o_ends w_2) H := hP.sub [6, 0, 1, 2, 3, 4, 5, 7] rfl
        have hD : va_D A (W_X5_fly cyI cyJ cyO h_o a_o_howFar a_o_tones a_o_only a_o_fars a_o_cellAt a_o_ends a_o_seen a_o_begun o_last o_turnsLet o_slowsLet o_fuel o_glide o_count o_weightSum o_toPass o_foundNumber o_foundWeight o_foundTurns o_foundSlowed o_howFar o_tones o_only o_fars o_cellAt o_ends w_2) := hD.sub [6, 0, 1, 2, 3, 4, 5, 7] (by decide +kernel) rfl
        clear hPc hDc hFc
        rw [hQ]
        exact W.vret hx hb hr (fun t ht hW => ⟨⟨(o_count, o_weightSum, o_toPass, o_foundWeight, o_foundTurns, o_foundSlowed, o_cellAt, o_ends, w_2), rfl, okS hw, by rw [ht]; exact hP, va_K.moved hW.alike hK, hD⟩, hS.F ht⟩) hS.2.2 dX5_fly_193
    unfold f_X5_flyb at hw
    have hP : va_P (dC, dI) vwCl (W_X5_fly cyI cyJ cyO h_o a_o_howFar a_o_tones a_o_only a_o_fars a_o_cellAt a_o_ends a_o_seen a_o_begun o_last o_turnsLet o_slowsLet o_fuel o_glide o_count o_weightSum o_toPass o_foundNumber o_foundWeight o_foundTurns o_foundSlowed o_howFar o_tones o_only o_fars o_cellAt o_ends o_seen) s.heap := hP
    obtain ⟨H, hH⟩ : ∃ H, H = s.heap := ⟨_, rfl⟩
    obtain ⟨locs, hlo⟩ : ∃ x : List Loc, x = [] := ⟨_, rfl⟩
    have hP : va_P (dC, dI) vwCl (W_X5_fly cyI cyJ cyO h_o a_o_howFar a_o_tones a_o_only a_o_fars a_o_cellAt a_o_ends a_o_seen a_o_begun o_last o_turnsLet o_slowsLet o_fuel o_glide o_count o_weightSum o_toPass o_foundNumber o_foundWeight o_foundTurns o_foundSlowed o_howFar o_tones o_only o_fars o_cellAt o_ends o_seen) H := by rw [hH]; exact hP
    have hS : va_S A s.heap H locs := by rw [hH, hlo]; exact hS
    refine kH hH hlo ?_
    clear hH hlo
    refine lv_iload hx hb dX5_fly_0 (lv_at hl 7 rfl) ?_
    refine lv_iload_n hx hb dX5_fly_2 rfl (lv_at hl 3 rfl) ?_
    refine lv_iload_n hx hb dX5_fly_3 rfl (lv_at hl 3 rfl) ?_
    refine lv_imul hx hb dX5_fly_4 ?_
    refine lv_isub hx hb dX5_fly_5 ?_
    refine lv_topi (fun x_3 ex_3 => ?_)
    replace hw := okN ex_3 hw
    clear ex_3
    refine lv_istore (lv' := [(8, .int x_3), (0, .ref h_o), (1, .int x1), (2, .int x2), (3, .int x3), (4, .int x4), (5, .int x5), (6, .int x6), (7, .int x7)]) hx hb dX5_fly_6 hl (by decide) rfl (fun ls hl => ?_)
    refine lv_iload_n hx hb dX5_fly_8 rfl (lv_at hl 2 rfl) ?_
    refine lv_if_lt (tgt := 31) hx hb dX5_fly_9 (by decide) (fun c_4 => ?_) (fun c_4 => ?_)
    · replace hw := okT hw c_4
      clear c_4
      rw [hQ]
      exact W.vret hx hb hr (fun t ht hW => ⟨⟨(o_count, o_weightSum, o_toPass, o_foundWeight, o_foundTurns, o_foundSlowed, o_cellAt, o_ends, o_seen), rfl, okS hw, by rw [ht]; exact hP, va_K.moved hW.alike hK, hD⟩, hS.F ht⟩) hS.2.2 dX5_fly_31
    · replace hw := okF hw c_4
      clear c_4
      refine lv_iload_n hx hb dX5_fly_12 rfl (lv_at hl 2 rfl) ?_
      refine lv_aload_n hx hb dX5_fly_13 rfl (lv_at hl 1 rfl) ?_
      refine va_get (D := (dC, dI)) (ci := 5) (v := .int o_last) (C := RX5) (T := TX5) (N := 20) hx hb hts hi5 hown hK hP 0 rfl rfl 4 (by decide) hq2 (fun _ h9 => h9) rfl dX5_fly_14 ?_
      refine lv_icmp_ge (tgt := 31) hx hb dX5_fly_17 (by decide) (fun c_5 => ?_) (fun c_5 => ?_)
      · replace hw := okT hw c_5
        clear c_5
        rw [hQ]
        exact W.vret hx hb hr (fun t ht hW => ⟨⟨(o_count, o_weightSum, o_toPass, o_foundWeight, o_foundTurns, o_foundSlowed, o_cellAt, o_ends, o_seen), rfl, okS hw, by rw [ht]; exact hP, va_K.moved hW.alike hK, hD⟩, hS.F ht⟩) hS.2.2 dX5_fly_31
      · replace hw := okF hw c_5
        clear c_5
        refine lv_iload_n hx hb dX5_fly_20 rfl (lv_at hl 2 rfl) ?_
        refine lv_bipush (v := 6) hx hb dX5_fly_21 (by decide) ?_
        refine lv_icmp_ge (tgt := 31) hx hb dX5_fly_23 (by decide) (fun c_6 => ?_) (fun c_6 => ?_)
        · replace hw := okT hw c_6
          clear c_6
          rw [hQ]
          exact W.vret hx hb hr (fun t ht hW => ⟨⟨(o_count, o_weightSum, o_toPass, o_foundWeight, o_foundTurns, o_foundSlowed, o_cellAt, o_ends, o_seen), rfl, okS hw, by rw [ht]; exact hP, va_K.moved hW.alike hK, hD⟩, hS.F ht⟩) hS.2.2 dX5_fly_31
        · replace hw := okF hw c_6
          clear c_6
          refine lv_iload hx hb dX5_fly_26 (lv_at hl 0 rfl) ?_
          refine lv_if_ge (tgt := 32) hx hb dX5_fly_28 (by decide) (fun c_7 => ?_) (fun c_7 => ?_)
          · replace hw := okT hw c_7
            clear c_7
            refine lv_aload_n hx hb dX5_fly_32 rfl (lv_at hl 1 rfl) ?_
            refine va_get (D := (dC, dI)) (ci := 5) (v := .ref a_o_cellAt) (C := RX5) (T := TX5) (N := 20) hx hb hts hi5 hown hK hP 0 rfl rfl 9 (by decide) hq3 (fun _ h9 => h9) rfl dX5_fly_33 ?_
            refine lv_iload_n hx hb dX5_fly_36 rfl (lv_at hl 2 rfl) ?_
            obtain ⟨h_8, hw⟩ := okC hw
            refine va_iald (i := x1) hx hb hK hP 5 0 rfl rfl h_8 dX5_fly_37 ?_
            refine lv_topi (fun x_9 ex_9 => ?_)
            replace hw := okN ex_9 hw
            clear ex_9
            refine lv_istore (lv' := [(9, .int x_9), (8, .int x_3), (0, .ref h_o), (1, .int x1), (2, .int x2), (3, .int x3), (4, .int x4), (5, .int x5), (6, .int x6), (7, .int x7)]) hx hb dX5_fly_38 hl (by decide) rfl (fun ls hl => ?_)
            refine lv_iload hx hb dX5_fly_40 (lv_at hl 0 rfl) ?_
            refine lv_iload_n hx hb dX5_fly_42 rfl (lv_at hl 4 rfl) ?_
            refine lv_iload_n hx hb dX5_fly_43 rfl (lv_at hl 5 rfl) ?_
            have hFc := va_free (wc := []) hD hS hA [] rfl
            refine kp_i (va_runSN (As := [.int x_9, .int x2, .int x3]) (rest := []) ⟨hx, hb, hml, hown, hts⟩ (c_X6_ahead l dC dI cyI cyJ cyO H.size tD tR tL tM x_9 x2 x3 _ (okb1 hw)) ⟨va_cnB 3 hts (gdN (fun w h => List.mem_cons_of_mem _ h) q_418) rfl rfl rfl hZ.2.2.2.2.2.2.2.2.2.1 hq4 (by decide +kernel) ⟨(by show 0 + 1 ≤ (rm_X5_fly (d + 1)).frames; simp only [rm_X5_fly, rm_X5_choose]; omega), (by show 8 + (6 + 11) + 0 ≤ (rm_X5_fly (d + 1)).locals; simp only [rm_X5_fly, rm_X5_choose]; omega)⟩, hq5, trivial⟩ (kpre zX_ok hK va_P0 va_D0 hZ hS hFc) rfl rfl hl.1 rfl (lv_room (Nat.le_of_ble_eq_true rfl)) dX5_fly_44 ⟨Nat.le_of_ble_eq_true rfl, Nat.le_of_ble_eq_true rfl⟩) hP hD hS hFc (fun r_10 H locs hw hP hS => ?_)
            try dsimp only at hw
            clear hFc
            refine lv_istore (lv' := [(10, .int r_10), (9, .int x_9), (8, .int x_3), (0, .ref h_o), (1, .int x1), (2, .int x2), (3, .int x3), (4, .int x4), (5, .int x5), (6, .int x6), (7, .int x7)]) hx hb dX5_fly_47 hl (by decide) rfl (fun ls hl => ?_)
            refine lv_iload hx hb dX5_fly_49 (lv_at hl 0 rfl) ?_
            refine lv_iconst (v := (-1)) hx hb dX5_fly_51 (by decide) ?_
            refine lv_icmp_eq (tgt := 85) hx hb dX5_fly_52 (by decide) (fun c_11 => ?_) (fun c_11 => ?_)
            · replace hw := okT hw c_11
              clear c_11
              rw [hQ]
              exact W.vret hx hb hr (fun t ht hW => ⟨⟨(o_count, o_weightSum, o_toPass, o_foundWeight, o_foundTurns, o_foundSlowed, o_cellAt, o_ends, o_seen), rfl, okS hw, by rw [ht]; exact hP, va_K.moved hW.alike hK, hD⟩, hS.F ht⟩) hS.2.2 dX5_fly_85
            · replace hw := okF hw c_11
              clear c_11
              refine lv_iload hx hb dX5_fly_55 (lv_at hl 1 rfl) ?_
              have hFc := va_free (wc := []) hD hS hA [] rfl
              refine kp_i (va_runSN (As := [.int x_9]) (rest := []) ⟨hx, hb, hml, hown, hts⟩ (c_X6_isCell l dC dI cyI cyJ cyO H.size x_9 _ (okb1 hw)) ⟨va_cnB 1 hts (gdN (fun w h => List.mem_cons_of_mem _ h) q_334) rfl rfl rfl hZ.2.2.2.2.2.2.2.2.2.2.1 hq4 (by decide +kernel) ⟨(by show 0 + 1 ≤ (rm_X5_fly (d + 1)).frames; simp only [rm_X5_fly, rm_X5_choose]; omega), (by show 8 + (1 + 11) + 0 ≤ (rm_X5_fly (d + 1)).locals; simp only [rm_X5_fly, rm_X5_choose]; omega)⟩, hq6, trivial⟩ (kpre zN_ok hK va_P0 va_D0 trivial hS hFc) rfl rfl hl.1 rfl (lv_room (Nat.le_of_ble_eq_true rfl)) dX5_fly_57 ⟨Nat.le_of_ble_eq_true rfl, Nat.le_of_ble_eq_true rfl⟩) hP hD hS hFc (fun r_12 H locs hw hP hS => ?_)
              try dsimp only at hw
              clear hFc
              refine lv_if_eq (tgt := 85) hx hb dX5_fly_60 (by decide) (fun c_13 => ?_) (fun c_13 => ?_)
              · replace hw := okT hw c_13
                clear c_13
                rw [hQ]
                exact W.vret hx hb hr (fun t ht hW => ⟨⟨(o_count, o_weightSum, o_toPass, o_foundWeight, o_foundTurns, o_foundSlowed, o_cellAt, o_ends, o_seen), rfl, okS hw, by rw [ht]; exact hP, va_K.moved hW.alike hK, hD⟩, hS.F ht⟩) hS.2.2 dX5_fly_85
              · replace hw := okF hw c_13
                clear c_13
                refine lv_aload_n hx hb dX5_fly_63 rfl (lv_at hl 3 rfl) ?_
                refine lv_iload_n hx hb dX5_fly_64 rfl (lv_at hl 4 rfl) ?_
                refine lv_iload hx hb dX5_fly_65 (lv_at hl 1 rfl) ?_
                have hPc := hP.sub (ws' := (W_X5_isLet cyI cyJ cyO h_o a_o_howFar a_o_tones a_o_only a_o_fars a_o_cellAt a_o_ends a_o_seen a_o_begun o_last o_turnsLet o_slowsLet o_fuel o_glide o_count o_weightSum o_toPass o_foundNumber o_foundWeight o_foundTurns o_foundSlowed o_only)) [0, 3] rfl
                have hDc := hD.sub (ws' := (W_X5_isLet cyI cyJ cyO h_o a_o_howFar a_o_tones a_o_only a_o_fars a_o_cellAt a_o_ends a_o_seen a_o_begun o_last o_turnsLet o_slowsLet o_fuel o_glide o_count o_weightSum o_toPass o_foundNumber o_foundWeight o_foundTurns o_foundSlowed o_only)) [0, 3] (by decide +kernel) rfl
                have hFc := va_free (wc := (W_X5_isLet cyI cyJ cyO h_o a_o_howFar a_o_tones a_o_only a_o_fars a_o_cellAt a_o_ends a_o_seen a_o_begun o_last o_turnsLet o_slowsLet o_fuel o_glide o_count o_weightSum o_toPass o_foundNumber o_foundWeight o_foundTurns o_foundSlowed o_only)) hD hS hA [0, 3] rfl
                refine kc_i (wr := [(a_o_howFar, .inl (cyI, 7, .inl o_howFar)), (a_o_tones, .inl (cyI, 7, .inl o_tones)), (a_o_fars, .inl (cyI, 100, .inl o_fars)), (a_o_cellAt, .inl (cyI, 7, .inl o_cellAt)), (a_o_ends, .inl (cyJ, 100, .inr (.inl o_ends))), (a_o_seen, .inl (cyI, 70, .inl o_seen))]) (va_runV (As := [.int x1, .int x_9]) (rest := []) ⟨hx, hb, hml, hown, hts⟩ (c_X5_isLet l dC dI cyI cyJ cyO H.size h_o a_o_howFar a_o_tones a_o_only a_o_fars a_o_cellAt a_o_ends a_o_seen a_o_begun o_last o_turnsLet o_slowsLet o_fuel o_glide o_count o_weightSum o_toPass o_foundNumber o_foundWeight o_foundTurns o_foundSlowed o_only x1 x_9 _ (okb1 hw)) (cwV 2 hts (gdV (fun w h => List.mem_cons_of_mem _ h) q_424 q_426 qs_11 q_3 q_427) rfl rfl rfl (by decide +kernel) ⟨(by show 0 + 1 ≤ (rm_X5_fly (d + 1)).frames; simp only [rm_X5_fly, rm_X5_choose]; omega), (by show 8 + (3 + 11) + 0 ≤ (rm_X5_fly (d + 1)).locals; simp only [rm_X5_fly, rm_X5_choose]; omega)⟩) ⟨(kpre zN_ok hK hPc hDc trivial hS hFc).1, va_recv hK hP (ci := 5) (q0 := 0) rfl rfl, (kpre zN_ok hK hPc hDc trivial hS hFc).2⟩ rfl rfl hl.1 rfl (lv_room (Nat.le_of_ble_eq_true rfl)) dX5_fly_67 ⟨Nat.le_of_ble_eq_true rfl, Nat.le_of_ble_eq_true rfl⟩) hP hD hS hFc [0, 3] [1, 2, 4, 5, 6, 7] rfl rfl (by decide +kernel) (by decide +kernel) (fun r_14 u H locs hw hP hD hS => ?_)
                try dsimp only at hw
                have hP : va_P (dC, dI) vwCl (W_X5_fly cyI cyJ cyO h_o a_o_howFar a_o_tones a_o_only a_o_fars a_o_cellAt a_o_ends a_o_seen a_o_begun o_last o_turnsLet o_slowsLet o_fuel o_glide o_count o_weightSum o_toPass o_foundNumber o_foundWeight o_foundTurns o_foundSlowed o_howFar o_tones o_only o_fars o_cellAt o_ends o_seen) H := hP.sub [6, 0, 1, 7, 2, 3, 4, 5] rfl
                have hD : va_D A (W_X5_fly cyI cyJ cyO h_o a_o_howFar a_o_tones a_o_only a_o_fars a_o_cellAt a_o_ends a_o_seen a_o_begun o_last o_turnsLet o_slowsLet o_fuel o_glide o_count o_weightSum o_toPass o_foundNumber o_foundWeight o_foundTurns o_foundSlowed o_howFar o_tones o_only o_fars o_cellAt o_ends o_seen) := hD.sub [6, 0, 1, 7, 2, 3, 4, 5] (by decide +kernel) rfl
                clear hPc hDc hFc
                refine lv_if_eq (tgt := 85) hx hb dX5_fly_70 (by decide) (fun c_15 => ?_) (fun c_15 => ?_)
                · replace hw := okT hw c_15
                  clear c_15
                  rw [hQ]
                  exact W.vret hx hb hr (fun t ht hW => ⟨⟨(o_count, o_weightSum, o_toPass, o_foundWeight, o_foundTurns, o_foundSlowed, o_cellAt, o_ends, o_seen), rfl, okS hw, by rw [ht]; exact hP, va_K.moved hW.alike hK, hD⟩, hS.F ht⟩) hS.2.2 dX5_fly_85
                · replace hw := okF hw c_15
                  clear c_15
                  refine lv_aload_n hx hb dX5_fly_73 rfl (lv_at hl 3 rfl) ?_
                  refine lv_iload_n hx hb dX5_fly_74 rfl (lv_at hl 4 rfl) ?_
                  refine lv_iconst (v := 1) hx hb dX5_fly_75 (by decide) ?_
                  refine lv_iadd hx hb dX5_fly_76 ?_
                  refine lv_iload hx hb dX5_fly_77 (lv_at hl 0 rfl) ?_
                  have hPc := hP.sub (ws' := (W_X5_isLet cyI cyJ cyO h_o a_o_howFar a_o_tones a_o_only a_o_fars a_o_cellAt a_o_ends a_o_seen a_o_begun o_last o_turnsLet o_slowsLet o_fuel o_glide o_count o_weightSum o_toPass o_foundNumber o_foundWeight o_foundTurns o_foundSlowed o_only)) [0, 3] rfl
                  have hDc := hD.sub (ws' := (W_X5_isLet cyI cyJ cyO h_o a_o_howFar a_o_tones a_o_only a_o_fars a_o_cellAt a_o_ends a_o_seen a_o_begun o_last o_turnsLet o_slowsLet o_fuel o_glide o_count o_weightSum o_toPass o_foundNumber o_foundWeight o_foundTurns o_foundSlowed o_only)) [0, 3] (by decide +kernel) rfl
                  have hFc := va_free (wc := (W_X5_isLet cyI cyJ cyO h_o a_o_howFar a_o_tones a_o_only a_o_fars a_o_cellAt a_o_ends a_o_seen a_o_begun o_last o_turnsLet o_slowsLet o_fuel o_glide o_count o_weightSum o_toPass o_foundNumber o_foundWeight o_foundTurns o_foundSlowed o_only)) hD hS hA [0, 3] rfl
                  refine kc_i (wr := [(a_o_howFar, .inl (cyI, 7, .inl o_howFar)), (a_o_tones, .inl (cyI, 7, .inl o_tones)), (a_o_fars, .inl (cyI, 100, .inl o_fars)), (a_o_cellAt, .inl (cyI, 7, .inl o_cellAt)), (a_o_ends, .inl (cyJ, 100, .inr (.inl o_ends))), (a_o_seen, .inl (cyI, 70, .inl o_seen))]) (va_runV (As := [.int (x1 + 1), .int r_10]) (rest := []) ⟨hx, hb, hml, hown, hts⟩ (c_X5_isLet l dC dI cyI cyJ cyO H.size h_o a_o_howFar a_o_tones a_o_only a_o_fars a_o_cellAt a_o_ends a_o_seen a_o_begun o_last o_turnsLet o_slowsLet o_fuel o_glide o_count o_weightSum o_toPass o_foundNumber o_foundWeight o_foundTurns o_foundSlowed o_only (x1 + 1) r_10 _ (okb1 hw)) (cwV 2 hts (gdV (fun w h => List.mem_cons_of_mem _ h) q_424 q_426 qs_11 q_3 q_427) rfl rfl rfl (by decide +kernel) ⟨(by show 0 + 1 ≤ (rm_X5_fly (d + 1)).frames; simp only [rm_X5_fly, rm_X5_choose]; omega), (by show 8 + (3 + 11) + 0 ≤ (rm_X5_fly (d + 1)).locals; simp only [rm_X5_fly, rm_X5_choose]; omega)⟩) ⟨(kpre zN_ok hK hPc hDc trivial hS hFc).1, va_recv hK hP (ci := 5) (q0 := 0) rfl rfl, (kpre zN_ok hK hPc hDc trivial hS hFc).2⟩ rfl rfl hl.1 rfl (lv_room (Nat.le_of_ble_eq_true rfl)) dX5_fly_79 ⟨Nat.le_of_ble_eq_true rfl, Nat.le_of_ble_eq_true rfl⟩) hP hD hS hFc [0, 3] [1, 2, 4, 5, 6, 7] rfl rfl (by decide +kernel) (by decide +kernel) (fun r_16 u H locs hw hP hD hS => ?_)
                  try dsimp only at hw
                  have hP : va_P (dC, dI) vwCl (W_X5_fly cyI cyJ cyO h_o a_o_howFar a_o_tones a_o_only a_o_fars a_o_cellAt a_o_ends a_o_seen a_o_begun o_last o_turnsLet o_slowsLet o_fuel o_glide o_count o_weightSum o_toPass o_foundNumber o_foundWeight o_foundTurns o_foundSlowed o_howFar o_tones o_only o_fars o_cellAt o_ends o_seen) H := hP.sub [6, 0, 1, 7, 2, 3, 4, 5] rfl
                  have hD : va_D A (W_X5_fly cyI cyJ cyO h_o a_o_howFar a_o_tones a_o_only a_o_fars a_o_cellAt a_o_ends a_o_seen a_o_begun o_last o_turnsLet o_slowsLet o_fuel o_glide o_count o_weightSum o_toPass o_foundNumber o_foundWeight o_foundTurns o_foundSlowed o_howFar o_tones o_only o_fars o_cellAt o_ends o_seen) := hD.sub [6, 0, 1, 7, 2, 3, 4, 5] (by decide +kernel) rfl
                  clear hPc hDc hFc
                  refine lv_if_ne (tgt := 86) hx hb dX5_fly_82 (by decide) (fun c_17 => ?_) (fun c_17 => ?_)
                  · replace hw := okF hw c_17
                    clear c_17
                    refine lv_iload hx hb dX5_fly_86 (lv_at hl 9 rfl) ?_
                    refine lv_aload_n hx hb dX5_fly_88 rfl (lv_at hl 3 rfl) ?_
                    refine lv_iload_n hx hb dX5_fly_89 rfl (lv_at hl 4 rfl) ?_
                    refine lv_iconst (v := 1) hx hb dX5_fly_90 (by decide) ?_
                    refine lv_iadd hx hb dX5_fly_91 ?_
                    refine lv_aload_n hx hb dX5_fly_92 rfl (lv_at hl 3 rfl) ?_
                    refine va_get (D := (dC, dI)) (ci := 5) (v := .ref a_o_fars) (C := RX5) (T := TX5) (N := 20) hx hb hts hi5 hown hK hP 0 rfl rfl 3 (by decide) hq7 (fun _ h9 => h9) rfl dX5_fly_93 ?_
                    refine lv_iload hx hb dX5_fly_96 (lv_at hl 1 rfl) ?_
                    obtain ⟨h_18, hw⟩ := okC hw
                    refine va_iald (i := x_9) hx hb hK hP 4 0 rfl rfl h_18 dX5_fly_98 ?_
                    refine lv_aload_n hx hb dX5_fly_99 rfl (lv_at hl 3 rfl) ?_
                    refine va_get (D := (dC, dI)) (ci := 5) (v := .ref a_o_fars) (C := RX5) (T := TX5) (N := 20) hx hb hts hi5 hown hK hP 0 rfl rfl 3 (by decide) hq7 (fun _ h9 => h9) rfl dX5_fly_100 ?_
                    refine lv_iload hx hb dX5_fly_103 (lv_at hl 0 rfl) ?_
                    obtain ⟨h_19, hw⟩ := okC hw
                    refine va_iald (i := r_10) hx hb hK hP 4 0 rfl rfl h_19 dX5_fly_105 ?_
                    have hPc := hP.sub (ws' := (W_X5_ringGives cyI cyJ cyO h_o a_o_howFar a_o_tones a_o_only a_o_fars a_o_cellAt a_o_ends a_o_seen a_o_begun o_last o_turnsLet o_slowsLet o_fuel o_glide o_count o_weightSum o_toPass o_foundNumber o_foundWeight o_foundTurns o_foundSlowed o_howFar o_tones)) [0, 1, 2] rfl
                    have hDc := hD.sub (ws' := (W_X5_ringGives cyI cyJ cyO h_o a_o_howFar a_o_tones a_o_only a_o_fars a_o_cellAt a_o_ends a_o_seen a_o_begun o_last o_turnsLet o_slowsLet o_fuel o_glide o_count o_weightSum o_toPass o_foundNumber o_foundWeight o_foundTurns o_foundSlowed o_howFar o_tones)) [0, 1, 2] (by decide +kernel) rfl
                    have hFc := va_free (wc := (W_X5_ringGives cyI cyJ cyO h_o a_o_howFar a_o_tones a_o_only a_o_fars a_o_cellAt a_o_ends a_o_seen a_o_begun o_last o_turnsLet o_slowsLet o_fuel o_glide o_count o_weightSum o_toPass o_foundNumber o_foundWeight o_foundTurns o_foundSlowed o_howFar o_tones)) hD hS hA [0, 1, 2] rfl
                    refine kc_i (wr := [(a_o_only, .inl (cyI, 7, .inl o_only)), (a_o_fars, .inl (cyI, 100, .inl o_fars)), (a_o_cellAt, .inl (cyI, 7, .inl o_cellAt)), (a_o_ends, .inl (cyJ, 100, .inr (.inl o_ends))), (a_o_seen, .inl (cyI, 70, .inl o_seen))]) (va_runV (As := [.int (x1 + 1), .int (o_fars x_9.toNatClampNeg), .int (o_fars r_10.toNatClampNeg)]) (rest := [.int x6]) ⟨hx, hb, hml, hown, hts⟩ (c_X5_ringGives l dC dI cyI cyJ cyO H.size h_o a_o_howFar a_o_tones a_o_only a_o_fars a_o_cellAt a_o_ends a_o_seen a_o_begun o_last o_turnsLet o_slowsLet o_fuel o_glide o_count o_weightSum o_toPass o_foundNumber o_foundWeight o_foundTurns o_foundSlowed o_howFar o_tones (x1 + 1) (o_fars x_9.toNatClampNeg) (o_fars r_10.toNatClampNeg) _ (okb1 hw)) (cwV 3 hts (gdV (fun w h => List.mem_cons_of_mem _ h) q_428 q_430 qs_12 q_3 q_431) rfl rfl rfl (by decide +kernel) ⟨(by show 1 + 1 ≤ (rm_X5_fly (d + 1)).frames; simp only [rm_X5_fly, rm_X5_choose]; omega), (by show 8 + (6 + 11) + 21 ≤ (rm_X5_fly (d + 1)).locals; simp only [rm_X5_fly, rm_X5_choose]; omega)⟩) ⟨(kpre zN_ok hK hPc hDc trivial hS hFc).1, va_recv hK hP (ci := 5) (q0 := 0) rfl rfl, (kpre zN_ok hK hPc hDc trivial hS hFc).2⟩ rfl rfl hl.1 rfl (lv_room (Nat.le_of_ble_eq_true rfl)) dX5_fly_106 ⟨Nat.le_of_ble_eq_true rfl, Nat.le_of_ble_eq_true rfl⟩) hP hD hS hFc [0, 1, 2] [3, 4, 5, 6, 7] rfl rfl (by decide +kernel) (by decide +kernel) (fun r_20 u H locs hw hP hD hS => ?_)
                    try dsimp only at hw
                    have hP : va_P (dC, dI) vwCl (W_X5_fly cyI cyJ cyO h_o a_o_howFar a_o_tones a_o_only a_o_fars a_o_cellAt a_o_ends a_o_seen a_o_begun o_last o_turnsLet o_slowsLet o_fuel o_glide o_count o_weightSum o_toPass o_foundNumber o_foundWeight o_foundTurns o_foundSlowed o_howFar o_tones o_only o_fars o_cellAt o_ends o_seen) H := hP.sub [5, 6, 7, 0, 1, 2, 3, 4] rfl
                    have hD : va_D A (W_X5_fly cyI cyJ cyO h_o a_o_howFar a_o_tones a_o_only a_o_fars a_o_cellAt a_o_ends a_o_seen a_o_begun o_last o_turnsLet o_slowsLet o_fuel o_glide o_count o_weightSum o_toPass o_foundNumber o_foundWeight o_foundTurns o_foundSlowed o_howFar o_tones o_only o_fars o_cellAt o_ends o_seen) := hD.sub [5, 6, 7, 0, 1, 2, 3, 4] (by decide +kernel) rfl
                    clear hPc hDc hFc
                    refine lv_imul hx hb dX5_fly_109 ?_
                    refine lv_topi (fun x_21 ex_21 => ?_)
                    replace hw := okN ex_21 hw
                    clear ex_21
                    refine lv_istore (lv' := [(11, .int x_21), (10, .int r_10), (9, .int x_9), (8, .int x_3), (0, .ref h_o), (1, .int x1), (2, .int x2), (3, .int x3), (4, .int x4), (5, .int x5), (6, .int x6), (7, .int x7)]) hx hb dX5_fly_110 hl (by decide) rfl (fun ls hl => ?_)
                    refine lv_iload hx hb dX5_fly_112 (lv_at hl 0 rfl) ?_
                    refine lv_if_ne (tgt := 118) hx hb dX5_fly_114 (by decide) (fun c_22 => ?_) (fun c_22 => ?_)
                    · replace hw := okF hw c_22
                      clear c_22
                      refine lv_aload_n hx hb dX5_fly_118 rfl (lv_at hl 4 rfl) ?_
                      refine va_get (D := (dC, dI)) (ci := 5) (v := .ref a_o_cellAt) (C := RX5) (T := TX5) (N := 20) hx hb hts hi5 hown hK hP 0 rfl rfl 9 (by decide) hq3 (fun _ h9 => h9) rfl dX5_fly_119 ?_
                      refine lv_iload_n hx hb dX5_fly_122 rfl (lv_at hl 5 rfl) ?_
                      refine lv_iconst (v := 1) hx hb dX5_fly_123 (by decide) ?_
                      refine lv_iadd hx hb dX5_fly_124 ?_
                      refine lv_iload hx hb dX5_fly_125 (lv_at hl 1 rfl) ?_
                      obtain ⟨h_23, hw⟩ := okC hw
                      refine va_iast (i := x1 + 1) (x := r_10) hx hb hK hP hD hS 5 0 rfl rfl h_23 dX5_fly_127 (fun H locs hP hD hS => ?_)
                      have hP : va_P (dC, dI) vwCl (W_X5_fly cyI cyJ cyO h_o a_o_howFar a_o_tones a_o_only a_o_fars a_o_cellAt a_o_ends a_o_seen a_o_begun o_last o_turnsLet o_slowsLet o_fuel o_glide o_count o_weightSum o_toPass o_foundNumber o_foundWeight o_foundTurns o_foundSlowed o_howFar o_tones o_only o_fars (upd o_cellAt (x1 + 1).toNatClampNeg r_10) o_ends o_seen) H := hP
                      have hD : va_D A (W_X5_fly cyI cyJ cyO h_o a_o_howFar a_o_tones a_o_only a_o_fars a_o_cellAt a_o_ends a_o_seen a_o_begun o_last o_turnsLet o_slowsLet o_fuel o_glide o_count o_weightSum o_toPass o_foundNumber o_foundWeight o_foundTurns o_foundSlowed o_howFar o_tones o_only o_fars (upd o_cellAt (x1 + 1).toNatClampNeg r_10) o_ends o_seen) := hD
                      refine lv_aload_n hx hb dX5_fly_128 rfl (lv_at hl 4 rfl) ?_
                      refine va_get (D := (dC, dI)) (ci := 5) (v := .int o_count) (C := RX5) (T := TX5) (N := 20) hx hb hts hi5 hown hK hP 0 rfl rfl 13 (by decide) hq0 (fun _ h9 => h9) rfl dX5_fly_129 ?_
                      refine lv_istore (lv' := [(12, .int o_count), (11, .int x_21), (10, .int r_10), (9, .int x_9), (8, .int x_3), (0, .ref h_o), (1, .int x1), (2, .int x2), (3, .int x3), (4, .int x4), (5, .int x5), (6, .int x6), (7, .int x7)]) hx hb dX5_fly_132 hl (by decide) rfl (fun ls hl => ?_)
                      refine lv_iload_n hx hb dX5_fly_134 rfl (lv_at hl 6 rfl) ?_
                      refine lv_iconst (v := 1) hx hb dX5_fly_135 (by decide) ?_
                      refine lv_iadd hx hb dX5_fly_136 ?_
                      refine lv_aload_n hx hb dX5_fly_137 rfl (lv_at hl 5 rfl) ?_
                      refine va_get (D := (dC, dI)) (ci := 5) (v := .int o_last) (C := RX5) (T := TX5) (N := 20) hx hb hts hi5 hown hK hP 0 rfl rfl 4 (by decide) hq2 (fun _ h9 => h9) rfl dX5_fly_138 ?_
                      refine lv_icmp_ne (tgt := 158) hx hb dX5_fly_141 (by decide) (fun c_24 => ?_) (fun c_24 => ?_)
                      · replace hw := okF hw c_24
                        clear c_24
                        refine lv_aload_n hx hb dX5_fly_158 rfl (lv_at hl 5 rfl) ?_
                        refine lv_iload_n hx hb dX5_fly_159 rfl (lv_at hl 6 rfl) ?_
                        refine lv_iconst (v := 1) hx hb dX5_fly_160 (by decide) ?_
                        refine lv_iadd hx hb dX5_fly_161 ?_
                        refine lv_iload_n hx hb dX5_fly_162 rfl (lv_at hl 7 rfl) ?_
                        refine lv_iload_n hx hb dX5_fly_163 rfl (lv_at hl 8 rfl) ?_
                        refine lv_iload hx hb dX5_fly_164 (lv_at hl 9 rfl) ?_
                        refine lv_iload hx hb dX5_fly_166 (lv_at hl 10 rfl) ?_
                        refine lv_iload hx hb dX5_fly_168 (lv_at hl 1 rfl) ?_
                        refine lv_iload hx hb dX5_fly_170 (lv_at hl 4 rfl) ?_
                        have hPc := hP.sub (ws' := (W_X5_choose cyI cyJ cyO h_o a_o_howFar a_o_tones a_o_only a_o_fars a_o_cellAt a_o_ends a_o_seen a_o_begun o_last o_turnsLet o_slowsLet o_fuel o_glide o_count o_weightSum o_toPass o_foundNumber o_foundWeight o_foundTurns o_foundSlowed o_howFar o_tones o_only o_fars (upd o_cellAt (x1 + 1).toNatClampNeg r_10) o_ends o_seen)) [0, 1, 2, 3, 4, 5, 6, 7] rfl
                        have hDc := hD.sub (ws' := (W_X5_choose cyI cyJ cyO h_o a_o_howFar a_o_tones a_o_only a_o_fars a_o_cellAt a_o_ends a_o_seen a_o_begun o_last o_turnsLet o_slowsLet o_fuel o_glide o_count o_weightSum o_toPass o_foundNumber o_foundWeight o_foundTurns o_foundSlowed o_howFar o_tones o_only o_fars (upd o_cellAt (x1 + 1).toNatClampNeg r_10) o_ends o_seen)) [0, 1, 2, 3, 4, 5, 6, 7] (by decide +kernel) rfl
                        have hFc := va_free (wc := (W_X5_choose cyI cyJ cyO h_o a_o_howFar a_o_tones a_o_only a_o_fars a_o_cellAt a_o_ends a_o_seen a_o_begun o_last o_turnsLet o_slowsLet o_fuel o_glide o_count o_weightSum o_toPass o_foundNumber o_foundWeight o_foundTurns o_foundSlowed o_howFar o_tones o_only o_fars (upd o_cellAt (x1 + 1).toNatClampNeg r_10) o_ends o_seen)) hD hS hA [0, 1, 2, 3, 4, 5, 6, 7] rfl
                        refine kc_v (wr := []) (va_runV (As := [.int (x1 + 1), .int x2, .int x3, .int x4, .int x5, .int x_21, .int x_3]) (rest := []) ⟨hx, hb, hml, hown, hts⟩ (c_X5_choose l dC dI cyI cyJ cyO d ih H.size tD tR tL tM h_o a_o_howFar a_o_tones a_o_only a_o_fars a_o_cellAt a_o_ends a_o_seen a_o_begun o_last o_turnsLet o_slowsLet o_fuel o_glide o_count o_weightSum o_toPass o_foundNumber o_foundWeight o_foundTurns o_foundSlowed o_howFar o_tones o_only o_fars (upd o_cellAt (x1 + 1).toNatClampNeg r_10) o_ends o_seen (x1 + 1) x2 x3 x4 x5 x_21 x_3 _ (okb9 hw)) (cwV 7 hts (gdV (fun w h => List.mem_cons_of_mem _ h) q_439 q_441 qs_14 q_3 q_442) rfl rfl rfl (by decide +kernel) ⟨(by show (rm_X5_choose d).frames + 1 ≤ (rm_X5_fly (d + 1)).frames; simp only [rm_X5_fly, rm_X5_choose]; omega), (by show 8 + (10 + 11) + (rm_X5_choose d).locals ≤ (rm_X5_fly (d + 1)).locals; simp only [rm_X5_fly, rm_X5_choose]; omega)⟩) ⟨(kpre zX_ok hK hPc hDc hZ hS hFc).1, va_recv hK hP (ci := 5) (q0 := 0) rfl rfl, (kpre zX_ok hK hPc hDc hZ hS hFc).2⟩ rfl rfl hl.1 rfl (lv_room (Nat.le_of_ble_eq_true rfl)) dX5_fly_172 ⟨Nat.le_of_ble_eq_true rfl, Nat.le_of_ble_eq_true rfl⟩) hP hD hS hFc [0, 1, 2, 3, 4, 5, 6, 7] [] rfl rfl (by decide +kernel) (by decide +kernel) (fun u H locs hw hP hD hS => ?_)
                        obtain ⟨w_25, w_26, w_27, w_28, w_29, w_30, w_31, w_32, w_33⟩ := u
                        try dsimp only at hw
                        have hP : va_P (dC, dI) vwCl (W_X5_fly cyI cyJ cyO h_o a_o_howFar a_o_tones a_o_only a_o_fars a_o_cellAt a_o_ends a_o_seen a_o_begun o_last o_turnsLet o_slowsLet o_fuel o_glide w_25 w_26 w_27 o_foundNumber w_28 w_29 w_30 o_howFar o_tones o_only o_fars w_31 w_32 w_33) H := hP.sub [0, 1, 2, 3, 4, 5, 6, 7] rfl
                        have hD : va_D A (W_X5_fly cyI cyJ cyO h_o a_o_howFar a_o_tones a_o_only a_o_fars a_o_cellAt a_o_ends a_o_seen a_o_begun o_last o_turnsLet o_slowsLet o_fuel o_glide w_25 w_26 w_27 o_foundNumber w_28 w_29 w_30 o_howFar o_tones o_only o_fars w_31 w_32 w_33) := hD.sub [0, 1, 2, 3, 4, 5, 6, 7] (by decide +kernel) rfl
                        clear hPc hDc hFc
                        exact w175 x1 r_10 o_count w_25 w_26 w_27 w_28 w_29 w_30 w_31 w_32 w_33 _ _ hP hD hS _ (lv_sub hl [5, 6, 2, 0] rfl) hw
                      · replace hw := okT hw c_24
                        clear c_24
                        refine lv_aload_n hx hb dX5_fly_144 rfl (lv_at hl 5 rfl) ?_
                        refine lv_iload_n hx hb dX5_fly_145 rfl (lv_at hl 7 rfl) ?_
                        refine lv_iload hx hb dX5_fly_146 (lv_at hl 9 rfl) ?_
                        refine lv_iload hx hb dX5_fly_148 (lv_at hl 10 rfl) ?_
                        refine lv_iload hx hb dX5_fly_150 (lv_at hl 1 rfl) ?_
                        have hPc := hP.sub (ws' := (W_X5_arrive cyI cyJ cyO h_o a_o_howFar a_o_tones a_o_only a_o_fars a_o_cellAt a_o_ends a_o_seen a_o_begun o_last o_turnsLet o_slowsLet o_fuel o_glide o_count o_weightSum o_toPass o_foundNumber o_foundWeight o_foundTurns o_foundSlowed (upd o_cellAt (x1 + 1).toNatClampNeg r_10) o_ends)) [0, 5, 6] rfl
                        have hDc := hD.sub (ws' := (W_X5_arrive cyI cyJ cyO h_o a_o_howFar a_o_tones a_o_only a_o_fars a_o_cellAt a_o_ends a_o_seen a_o_begun o_last o_turnsLet o_slowsLet o_fuel o_glide o_count o_weightSum o_toPass o_foundNumber o_foundWeight o_foundTurns o_foundSlowed (upd o_cellAt (x1 + 1).toNatClampNeg r_10) o_ends)) [0, 5, 6] (by decide +kernel) rfl
                        have hFc := va_free (wc := (W_X5_arrive cyI cyJ cyO h_o a_o_howFar a_o_tones a_o_only a_o_fars a_o_cellAt a_o_ends a_o_seen a_o_begun o_last o_turnsLet o_slowsLet o_fuel o_glide o_count o_weightSum o_toPass o_foundNumber o_foundWeight o_foundTurns o_foundSlowed (upd o_cellAt (x1 + 1).toNatClampNeg r_10) o_ends)) hD hS hA [0, 5, 6] rfl
                        refine kc_v (wr := [(a_o_howFar, .inl (cyI, 7, .inl o_howFar)), (a_o_tones, .inl (cyI, 7, .inl o_tones)), (a_o_only, .inl (cyI, 7, .inl o_only)), (a_o_fars, .inl (cyI, 100, .inl o_fars)), (a_o_seen, .inl (cyI, 70, .inl o_seen))]) (va_runV (As := [.int x2, .int x4, .int x5, .int x_21]) (rest := []) ⟨hx, hb, hml, hown, hts⟩ (c_X5_arrive l dC dI cyI cyJ cyO H.size tD tR tL tM h_o a_o_howFar a_o_tones a_o_only a_o_fars a_o_cellAt a_o_ends a_o_seen a_o_begun o_last o_turnsLet o_slowsLet o_fuel o_glide o_count o_weightSum o_toPass o_foundNumber o_foundWeight o_foundTurns o_foundSlowed (upd o_cellAt (x1 + 1).toNatClampNeg r_10) o_ends x2 x4 x5 x_21 _ (okb7 hw)) (cwV 4 hts (gdV (fun w h => List.mem_cons_of_mem _ h) q_435 q_437 qs_13 q_3 q_438) rfl rfl rfl (by decide +kernel) ⟨(by show 1 + 1 ≤ (rm_X5_fly (d + 1)).frames; simp only [rm_X5_fly, rm_X5_choose]; omega), (by show 8 + (8 + 11) + 25 ≤ (rm_X5_fly (d + 1)).locals; simp only [rm_X5_fly, rm_X5_choose]; omega)⟩) ⟨(kpre zX_ok hK hPc hDc hZ hS hFc).1, va_recv hK hP (ci := 5) (q0 := 0) rfl rfl, (kpre zX_ok hK hPc hDc hZ hS hFc).2⟩ rfl rfl hl.1 rfl (lv_room (Nat.le_of_ble_eq_true rfl)) dX5_fly_152 ⟨Nat.le_of_ble_eq_true rfl, Nat.le_of_ble_eq_true rfl⟩) hP hD hS hFc [0, 5, 6] [1, 2, 3, 4, 7] rfl rfl (by decide +kernel) (by decide +kernel) (fun u H locs hw hP hD hS => ?_)
                        obtain ⟨w_34, w_35, w_36, w_37, w_38, w_39, w_40⟩ := u
                        try dsimp only at hw
                        have hP : va_P (dC, dI) vwCl (W_X5_fly cyI cyJ cyO h_o a_o_howFar a_o_tones a_o_only a_o_fars a_o_cellAt a_o_ends a_o_seen a_o_begun o_last o_turnsLet o_slowsLet o_fuel o_glide w_34 w_35 w_36 o_foundNumber w_37 w_38 w_39 o_howFar o_tones o_only o_fars (upd o_cellAt (x1 + 1).toNatClampNeg r_10) w_40 o_seen) H := hP.sub [5, 0, 1, 2, 3, 6, 7, 4] rfl
                        have hD : va_D A (W_X5_fly cyI cyJ cyO h_o a_o_howFar a_o_tones a_o_only a_o_fars a_o_cellAt a_o_ends a_o_seen a_o_begun o_last o_turnsLet o_slowsLet o_fuel o_glide w_34 w_35 w_36 o_foundNumber w_37 w_38 w_39 o_howFar o_tones o_only o_fars (upd o_cellAt (x1 + 1).toNatClampNeg r_10) w_40 o_seen) := hD.sub [5, 0, 1, 2, 3, 6, 7, 4] (by decide +kernel) rfl
                        clear hPc hDc hFc
                        refine lv_goto (tgt := 175) hx hb dX5_fly_155 (by decide) ?_
                        exact w175 x1 r_10 o_count w_34 w_35 w_36 w_37 w_38 w_39 (upd o_cellAt (x1 + 1).toNatClampNeg r_10) w_40 o_seen _ _ hP hD hS _ (lv_sub hl [5, 6, 2, 0] rfl) hw
                    · replace hw := okT hw c_22
                      clear c_22
                      rw [hQ]
                      exact W.vret hx hb hr (fun t ht hW => ⟨⟨(o_count, o_weightSum, o_toPass, o_foundWeight, o_foundTurns, o_foundSlowed, o_cellAt, o_ends, o_seen), rfl, okS hw, by rw [ht]; exact hP, va_K.moved hW.alike hK, hD⟩, hS.F ht⟩) hS.2.2 dX5_fly_117
                  · replace hw := okT hw c_17
                    clear c_17
                    rw [hQ]
                    exact W.vret hx hb hr (fun t ht hW => ⟨⟨(o_count, o_weightSum, o_toPass, o_foundWeight, o_foundTurns, o_foundSlowed, o_cellAt, o_ends, o_seen), rfl, okS hw, by rw [ht]; exact hP, va_K.moved hW.alike hK, hD⟩, hS.F ht⟩) hS.2.2 dX5_fly_85
          · replace hw := okF hw c_7
            clear c_7
            rw [hQ]
            exact W.vret hx hb hr (fun t ht hW => ⟨⟨(o_count, o_weightSum, o_toPass, o_foundWeight, o_foundTurns, o_foundSlowed, o_cellAt, o_ends, o_seen), rfl, okS hw, by rw [ht]; exact hP, va_K.moved hW.alike hK, hD⟩, hS.F ht⟩) hS.2.2 dX5_fly_31
/-! ===== X5_goAll ===== -/
theorem dX5_goAll_0 : decode cX5_goAll 0 = .ok (.aload_n 0, 1) := by decide +kernel
theorem dX5_goAll_1 : decode cX5_goAll 1 = .ok (.iconst 0, 1) := by decide +kernel
theorem dX5_goAll_2 : decode cX5_goAll 2 = .ok (.putfield 54, 3) := by decide +kernel
theorem dX5_goAll_5 : decode cX5_goAll 5 = .ok (.aload_n 0, 1) := by decide +kernel
theorem dX5_goAll_6 : decode cX5_goAll 6 = .ok (.lconst 0, 1) := by decide +kernel
theorem dX5_goAll_7 : decode cX5_goAll 7 = .ok (.putfield 57, 3) := by decide +kernel
theorem dX5_goAll_10 : decode cX5_goAll 10 = .ok (.aload_n 0, 1) := by decide +kernel
theorem dX5_goAll_11 : decode cX5_goAll 11 = .ok (.iconst (-1), 1) := by decide +kernel
theorem dX5_goAll_12 : decode cX5_goAll 12 = .ok (.putfield 61, 3) := by decide +kernel
theorem dX5_goAll_15 : decode cX5_goAll 15 = .ok (.aload_n 0, 1) := by decide +kernel
theorem dX5_goAll_16 : decode cX5_goAll 16 = .ok (.iconst (-1), 1) := by decide +kernel
theorem dX5_goAll_17 : decode cX5_goAll 17 = .ok (.putfield 64, 3) := by decide +kernel
theorem dX5_goAll_20 : decode cX5_goAll 20 = .ok (.iconst 0, 1) := by decide +kernel
theorem dX5_goAll_21 : decode cX5_goAll 21 = .ok (.istore_n 1, 1) := by decide +kernel
theorem dX5_goAll_22 : decode cX5_goAll 22 = .ok (.iload_n 1, 1) := by decide +kernel
theorem dX5_goAll_23 : decode cX5_goAll 23 = .ok (.bipush 100, 2) := by decide +kernel
theorem dX5_goAll_25 : decode cX5_goAll 25 = .ok (.if_icmp .ge 16, 3) := by decide +kernel
theorem dX5_goAll_28 : decode cX5_goAll 28 = .ok (.aload_n 0, 1) := by decide +kernel
theorem dX5_goAll_29 : decode cX5_goAll 29 = .ok (.getfield 44, 3) := by decide +kernel
theorem dX5_goAll_32 : decode cX5_goAll 32 = .ok (.iload_n 1, 1) := by decide +kernel
theorem dX5_goAll_33 : decode cX5_goAll 33 = .ok (.lconst 0, 1) := by decide +kernel
theorem dX5_goAll_34 : decode cX5_goAll 34 = .ok (.lastore, 1) := by decide +kernel
theorem dX5_goAll_35 : decode cX5_goAll 35 = .ok (.iinc 1 1, 3) := by decide +kernel
theorem dX5_goAll_38 : decode cX5_goAll 38 = .ok (.goto (-16), 3) := by decide +kernel
theorem dX5_goAll_41 : decode cX5_goAll 41 = .ok (.iconst 0, 1) := by decide +kernel
theorem dX5_goAll_42 : decode cX5_goAll 42 = .ok (.istore_n 1, 1) := by decide +kernel
theorem dX5_goAll_43 : decode cX5_goAll 43 = .ok (.iload_n 1, 1) := by decide +kernel
theorem dX5_goAll_44 : decode cX5_goAll 44 = .ok (.bipush 70, 2) := by decide +kernel
theorem dX5_goAll_46 : decode cX5_goAll 46 = .ok (.if_icmp .ge 16, 3) := by decide +kernel
theorem dX5_goAll_49 : decode cX5_goAll 49 = .ok (.aload_n 0, 1) := by decide +kernel
theorem dX5_goAll_50 : decode cX5_goAll 50 = .ok (.getfield 48, 3) := by decide +kernel
theorem dX5_goAll_53 : decode cX5_goAll 53 = .ok (.iload_n 1, 1) := by decide +kernel
theorem dX5_goAll_54 : decode cX5_goAll 54 = .ok (.iconst 0, 1) := by decide +kernel
theorem dX5_goAll_55 : decode cX5_goAll 55 = .ok (.iastore, 1) := by decide +kernel
theorem dX5_goAll_56 : decode cX5_goAll 56 = .ok (.iinc 1 1, 3) := by decide +kernel
theorem dX5_goAll_59 : decode cX5_goAll 59 = .ok (.goto (-16), 3) := by decide +kernel
theorem dX5_goAll_62 : decode cX5_goAll 62 = .ok (.iconst 0, 1) := by decide +kernel
theorem dX5_goAll_63 : decode cX5_goAll 63 = .ok (.istore_n 1, 1) := by decide +kernel
theorem dX5_goAll_64 : decode cX5_goAll 64 = .ok (.iload_n 1, 1) := by decide +kernel
theorem dX5_goAll_65 : decode cX5_goAll 65 = .ok (.bipush 24, 2) := by decide +kernel
theorem dX5_goAll_67 : decode cX5_goAll 67 = .ok (.if_icmp .ge 46, 3) := by decide +kernel
theorem dX5_goAll_70 : decode cX5_goAll 70 = .ok (.aload_n 0, 1) := by decide +kernel
theorem dX5_goAll_71 : decode cX5_goAll 71 = .ok (.getfield 54, 3) := by decide +kernel
theorem dX5_goAll_74 : decode cX5_goAll 74 = .ok (.istore_n 2, 1) := by decide +kernel
theorem dX5_goAll_75 : decode cX5_goAll 75 = .ok (.aload_n 0, 1) := by decide +kernel
theorem dX5_goAll_76 : decode cX5_goAll 76 = .ok (.iconst 0, 1) := by decide +kernel
theorem dX5_goAll_77 : decode cX5_goAll 77 = .ok (.iload_n 1, 1) := by decide +kernel
theorem dX5_goAll_78 : decode cX5_goAll 78 = .ok (.iconst 3, 1) := by decide +kernel
theorem dX5_goAll_79 : decode cX5_goAll 79 = .ok (.idiv, 1) := by decide +kernel
theorem dX5_goAll_80 : decode cX5_goAll 80 = .ok (.iload_n 1, 1) := by decide +kernel
theorem dX5_goAll_81 : decode cX5_goAll 81 = .ok (.iconst 3, 1) := by decide +kernel
theorem dX5_goAll_82 : decode cX5_goAll 82 = .ok (.irem, 1) := by decide +kernel
theorem dX5_goAll_83 : decode cX5_goAll 83 = .ok (.iconst 1, 1) := by decide +kernel
theorem dX5_goAll_84 : decode cX5_goAll 84 = .ok (.iadd, 1) := by decide +kernel
theorem dX5_goAll_85 : decode cX5_goAll 85 = .ok (.iconst 0, 1) := by decide +kernel
theorem dX5_goAll_86 : decode cX5_goAll 86 = .ok (.iconst 0, 1) := by decide +kernel
theorem dX5_goAll_87 : decode cX5_goAll 87 = .ok (.iconst 1, 1) := by decide +kernel
theorem dX5_goAll_88 : decode cX5_goAll 88 = .ok (.aload_n 0, 1) := by decide +kernel
theorem dX5_goAll_89 : decode cX5_goAll 89 = .ok (.getfield 35, 3) := by decide +kernel
theorem dX5_goAll_92 : decode cX5_goAll 92 = .ok (.invokevirtual 103, 3) := by decide +kernel
theorem dX5_goAll_95 : decode cX5_goAll 95 = .ok (.aload_n 0, 1) := by decide +kernel
theorem dX5_goAll_96 : decode cX5_goAll 96 = .ok (.getfield 51, 3) := by decide +kernel
theorem dX5_goAll_99 : decode cX5_goAll 99 = .ok (.iload_n 1, 1) := by decide +kernel
theorem dX5_goAll_100 : decode cX5_goAll 100 = .ok (.aload_n 0, 1) := by decide +kernel
theorem dX5_goAll_101 : decode cX5_goAll 101 = .ok (.getfield 54, 3) := by decide +kernel
theorem dX5_goAll_104 : decode cX5_goAll 104 = .ok (.iload_n 2, 1) := by decide +kernel
theorem dX5_goAll_105 : decode cX5_goAll 105 = .ok (.isub, 1) := by decide +kernel
theorem dX5_goAll_106 : decode cX5_goAll 106 = .ok (.iastore, 1) := by decide +kernel
theorem dX5_goAll_107 : decode cX5_goAll 107 = .ok (.iinc 1 1, 3) := by decide +kernel
theorem dX5_goAll_110 : decode cX5_goAll 110 = .ok (.goto (-46), 3) := by decide +kernel
theorem dX5_goAll_113 : decode cX5_goAll 113 = .ok (.aload_n 0, 1) := by decide +kernel
theorem dX5_goAll_114 : decode cX5_goAll 114 = .ok (.getfield 54, 3) := by decide +kernel
theorem dX5_goAll_117 : decode cX5_goAll 117 = .ok (.ifCond .le 14, 3) := by decide +kernel
theorem dX5_goAll_120 : decode cX5_goAll 120 = .ok (.aload_n 0, 1) := by decide +kernel
theorem dX5_goAll_121 : decode cX5_goAll 121 = .ok (.iconst 0, 1) := by decide +kernel
theorem dX5_goAll_122 : decode cX5_goAll 122 = .ok (.aload_n 0, 1) := by decide +kernel
theorem dX5_goAll_123 : decode cX5_goAll 123 = .ok (.getfield 41, 3) := by decide +kernel
theorem dX5_goAll_126 : decode cX5_goAll 126 = .ok (.iconst 0, 1) := by decide +kernel
theorem dX5_goAll_127 : decode cX5_goAll 127 = .ok (.iaload, 1) := by decide +kernel
theorem dX5_goAll_128 : decode cX5_goAll 128 = .ok (.invokevirtual 107, 3) := by decide +kernel
theorem dX5_goAll_131 : decode cX5_goAll 131 = .ok (.return_, 1) := by decide +kernel
abbrev W_X5_goAll (cyI cyJ cyO : ClassId) (h_o a_o_howFar a_o_tones a_o_only a_o_fars a_o_cellAt a_o_ends a_o_seen a_o_begun : Nat) (o_last : Int32) (o_turnsLet : Int32) (o_slowsLet : Int32) (o_fuel : Int32) (o_glide : Int32) (o_count : Int32) (o_weightSum : Int64) (o_toPass : Int32) (o_foundNumber : Int32) (o_foundWeight : Int32) (o_foundTurns : Int32) (o_foundSlowed : Int32) (o_howFar : Nat → Int32) (o_tones : Nat → Int32) (o_only : Nat → Int32) (o_fars : Nat → Int32) (o_cellAt : Nat → Int32) (o_ends : Nat → Int64) (o_seen : Nat → Int32) (o_begun : Nat → Int32) : va_W := [(h_o, .inr (5, [.ref a_o_howFar, .ref a_o_tones, .ref a_o_only, .ref a_o_fars, .int o_last, .int o_turnsLet, .int o_slowsLet, .int o_fuel, .int o_glide, .ref a_o_cellAt, .ref a_o_ends, .ref a_o_seen, .ref a_o_begun, .int o_count, .long o_weightSum, .int o_toPass, .int o_foundNumber, .int o_foundWeight, .int o_foundTurns, .int o_foundSlowed])), (a_o_howFar, .inl (cyI, 7, .inl o_howFar)), (a_o_tones, .inl (cyI, 7, .inl o_tones)), (a_o_only, .inl (cyI, 7, .inl o_only)), (a_o_fars, .inl (cyI, 100, .inl o_fars)), (a_o_cellAt, .inl (cyI, 7, .inl o_cellAt)), (a_o_ends, .inl (cyJ, 100, .inr (.inl o_ends))), (a_o_seen, .inl (cyI, 70, .inl o_seen)), (a_o_begun, .inl (cyI, 24, .inl o_begun))]
def f_X5_goAll_L64b (k64 : Int32 → Int32 → Int32 → Int32 → Int32 → Int32 → Int32 → Int64 → Int32 → Int32 → Int32 → Int32 → Int32 → (Nat → Int32) → (Nat → Int32) → (Nat → Int32) → (Nat → Int32) → (Nat → Int32) → (Nat → Int64) → (Nat → Int32) → (Nat → Int32) → Option (Int32 × Int64 × Int32 × Int32 × Int32 × Int32 × Int32 × (Nat → Int32) × (Nat → Int64) × (Nat → Int32) × (Nat → Int32))) (v1 : Int32) (o_last : Int32) (o_turnsLet : Int32) (o_slowsLet : Int32) (o_fuel : Int32) (o_glide : Int32) (o_count : Int32) (o_weightSum : Int64) (o_toPass : Int32) (o_foundNumber : Int32) (o_foundWeight : Int32) (o_foundTurns : Int32) (o_foundSlowed : Int32) (o_howFar : Nat → Int32) (o_tones : Nat → Int32) (o_only : Nat → Int32) (o_fars : Nat → Int32) (o_cellAt : Nat → Int32) (o_ends : Nat → Int64) (o_seen : Nat → Int32) (o_begun : Nat → Int32) : Option (Int32 × Int64 × Int32 × Int32 × Int32 × Int32 × Int32 × (Nat → Int32) × (Nat → Int64) × (Nat → Int32) × (Nat → Int32)) :=
  if 24 ≤ v1 then
    if o_count ≤ 0 then
      some (o_count, o_weightSum, o_toPass, o_foundNumber, o_foundWeight, o_foundTurns, o_foundSlowed, o_cellAt, o_ends, o_seen, o_begun)
    else
      bd1 (f_X5_see 0 (o_cellAt 0) o_seen) fun w_1 =>
      some (o_count, o_weightSum, o_toPass, o_foundNumber, o_foundWeight, o_foundTurns, o_foundSlowed, o_cellAt, o_ends, w_1, o_begun)
  else
    bd9 (f_X5_fly 8 0 (v1 / 3) ((v1 - v1 / 3 * 3) + 1) 0 0 1 o_fuel o_last o_turnsLet o_slowsLet o_glide o_count o_weightSum o_toPass o_foundWeight o_foundTurns o_foundSlowed o_howFar o_tones o_only o_fars o_cellAt o_ends o_seen) fun w_2 w_3 w_4 w_5 w_6 w_7 w_8 w_9 w_10 =>
    nm (w_2 - o_count) fun x_11 =>
    chk (¬ (v1 < 0 ∨ 24 ≤ v1.toNatClampNeg)) <|
    nm (v1 + 1) fun x_12 =>
    k64 x_12 o_last o_turnsLet o_slowsLet o_fuel o_glide w_2 w_3 w_4 o_foundNumber w_5 w_6 w_7 o_howFar o_tones o_only o_fars w_8 w_9 w_10 (upd o_begun v1.toNatClampNeg x_11)
def f_X5_goAll_L64 : Nat → Int32 → Int32 → Int32 → Int32 → Int32 → Int32 → Int32 → Int64 → Int32 → Int32 → Int32 → Int32 → Int32 → (Nat → Int32) → (Nat → Int32) → (Nat → Int32) → (Nat → Int32) → (Nat → Int32) → (Nat → Int64) → (Nat → Int32) → (Nat → Int32) → Option (Int32 × Int64 × Int32 × Int32 × Int32 × Int32 × Int32 × (Nat → Int32) × (Nat → Int64) × (Nat → Int32) × (Nat → Int32))
  | 0 => fun _ _ _ _ _ _ _ _ _ _ _ _ _ _ _ _ _ _ _ _ _ => none
  | n + 1 => f_X5_goAll_L64b (f_X5_goAll_L64 n)
def f_X5_goAll_L43b (k43 : Int32 → Int32 → Int32 → Int32 → Int32 → Int32 → Int32 → Int64 → Int32 → Int32 → Int32 → Int32 → Int32 → (Nat → Int32) → (Nat → Int32) → (Nat → Int32) → (Nat → Int32) → (Nat → Int32) → (Nat → Int64) → (Nat → Int32) → (Nat → Int32) → Option (Int32 × Int64 × Int32 × Int32 × Int32 × Int32 × Int32 × (Nat → Int32) × (Nat → Int64) × (Nat → Int32) × (Nat → Int32))) (v1 : Int32) (o_last : Int32) (o_turnsLet : Int32) (o_slowsLet : Int32) (o_fuel : Int32) (o_glide : Int32) (o_count : Int32) (o_weightSum : Int64) (o_toPass : Int32) (o_foundNumber : Int32) (o_foundWeight : Int32) (o_foundTurns : Int32) (o_foundSlowed : Int32) (o_howFar : Nat → Int32) (o_tones : Nat → Int32) (o_only : Nat → Int32) (o_fars : Nat → Int32) (o_cellAt : Nat → Int32) (o_ends : Nat → Int64) (o_seen : Nat → Int32) (o_begun : Nat → Int32) : Option (Int32 × Int64 × Int32 × Int32 × Int32 × Int32 × Int32 × (Nat → Int32) × (Nat → Int64) × (Nat → Int32) × (Nat → Int32)) :=
  if 70 ≤ v1 then
    f_X5_goAll_L64 FU 0 o_last o_turnsLet o_slowsLet o_fuel o_glide o_count o_weightSum o_toPass o_foundNumber o_foundWeight o_foundTurns o_foundSlowed o_howFar o_tones o_only o_fars o_cellAt o_ends o_seen o_begun
  else
    chk (¬ (v1 < 0 ∨ 70 ≤ v1.toNatClampNeg)) <|
    nm (v1 + 1) fun x_13 =>
    k43 x_13 o_last o_turnsLet o_slowsLet o_fuel o_glide o_count o_weightSum o_toPass o_foundNumber o_foundWeight o_foundTurns o_foundSlowed o_howFar o_tones o_only o_fars o_cellAt o_ends (upd o_seen v1.toNatClampNeg 0) o_begun
def f_X5_goAll_L43 : Nat → Int32 → Int32 → Int32 → Int32 → Int32 → Int32 → Int32 → Int64 → Int32 → Int32 → Int32 → Int32 → Int32 → (Nat → Int32) → (Nat → Int32) → (Nat → Int32) → (Nat → Int32) → (Nat → Int32) → (Nat → Int64) → (Nat → Int32) → (Nat → Int32) → Option (Int32 × Int64 × Int32 × Int32 × Int32 × Int32 × Int32 × (Nat → Int32) × (Nat → Int64) × (Nat → Int32) × (Nat → Int32))
  | 0 => fun _ _ _ _ _ _ _ _ _ _ _ _ _ _ _ _ _ _ _ _ _ => none
  | n + 1 => f_X5_goAll_L43b (f_X5_goAll_L43 n)
def f_X5_goAll_L22b (k22 : Int32 → Int32 → Int32 → Int32 → Int32 → Int32 → Int32 → Int64 → Int32 → Int32 → Int32 → Int32 → Int32 → (Nat → Int32) → (Nat → Int32) → (Nat → Int32) → (Nat → Int32) → (Nat → Int32) → (Nat → Int64) → (Nat → Int32) → (Nat → Int32) → Option (Int32 × Int64 × Int32 × Int32 × Int32 × Int32 × Int32 × (Nat → Int32) × (Nat → Int64) × (Nat → Int32) × (Nat → Int32))) (v1 : Int32) (o_last : Int32) (o_turnsLet : Int32) (o_slowsLet : Int32) (o_fuel : Int32) (o_glide : Int32) (o_count : Int32) (o_weightSum : Int64) (o_toPass : Int32) (o_foundNumber : Int32) (o_foundWeight : Int32) (o_foundTurns : Int32) (o_foundSlowed : Int32) (o_howFar : Nat → Int32) (o_tones : Nat → Int32) (o_only : Nat → Int32) (o_fars : Nat → Int32) (o_cellAt : Nat → Int32) (o_ends : Nat → Int64) (o_seen : Nat → Int32) (o_begun : Nat → Int32) : Option (Int32 × Int64 × Int32 × Int32 × Int32 × Int32 × Int32 × (Nat → Int32) × (Nat → Int64) × (Nat → Int32) × (Nat → Int32)) :=
  if 100 ≤ v1 then
    f_X5_goAll_L43 FU 0 o_last o_turnsLet o_slowsLet o_fuel o_glide o_count o_weightSum o_toPass o_foundNumber o_foundWeight o_foundTurns o_foundSlowed o_howFar o_tones o_only o_fars o_cellAt o_ends o_seen o_begun
  else
    chk (¬ (v1 < 0 ∨ 100 ≤ v1.toNatClampNeg)) <|
    nm (v1 + 1) fun x_14 =>
    k22 x_14 o_last o_turnsLet o_slowsLet o_fuel o_glide o_count o_weightSum o_toPass o_foundNumber o_foundWeight o_foundTurns o_foundSlowed o_howFar o_tones o_only o_fars o_cellAt (vp_updL o_ends v1.toNatClampNeg 0) o_seen o_begun
def f_X5_goAll_L22 : Nat → Int32 → Int32 → Int32 → Int32 → Int32 → Int32 → Int32 → Int64 → Int32 → Int32 → Int32 → Int32 → Int32 → (Nat → Int32) → (Nat → Int32) → (Nat → Int32) → (Nat → Int32) → (Nat → Int32) → (Nat → Int64) → (Nat → Int32) → (Nat → Int32) → Option (Int32 × Int64 × Int32 × Int32 × Int32 × Int32 × Int32 × (Nat → Int32) × (Nat → Int64) × (Nat → Int32) × (Nat → Int32))
  | 0 => fun _ _ _ _ _ _ _ _ _ _ _ _ _ _ _ _ _ _ _ _ _ => none
  | n + 1 => f_X5_goAll_L22b (f_X5_goAll_L22 n)
def f_X5_goAll (o_last : Int32) (o_turnsLet : Int32) (o_slowsLet : Int32) (o_fuel : Int32) (o_glide : Int32) (o_count : Int32) (o_weightSum : Int64) (o_toPass : Int32) (o_foundNumber : Int32) (o_foundWeight : Int32) (o_foundTurns : Int32) (o_foundSlowed : Int32) (o_howFar : Nat → Int32) (o_tones : Nat → Int32) (o_only : Nat → Int32) (o_fars : Nat → Int32) (o_cellAt : Nat → Int32) (o_ends : Nat → Int64) (o_seen : Nat → Int32) (o_begun : Nat → Int32) : Option (Int32 × Int64 × Int32 × Int32 × Int32 × Int32 × Int32 × (Nat → Int32) × (Nat → Int64) × (Nat → Int32) × (Nat → Int32)) :=
  f_X5_goAll_L22 FU 0 o_last o_turnsLet o_slowsLet o_fuel o_glide 0 0 (-1) (-1) o_foundWeight o_foundTurns o_foundSlowed o_howFar o_tones o_only o_fars o_cellAt o_ends o_seen o_begun
abbrev rm_X5_goAll : Room := { frames := 41, cells := 0, slots := 0, locals := 1032 }
set_option maxRecDepth 100000 in
set_option maxHeartbeats 4000000 in
theorem c_X5_goAll (l : Launch) (dC : Nat → ClassId) (dI : Nat → Nat → Nat) (cyI cyJ cyO : ClassId) (sz : Nat) (tD tR tL tM : Nat) (h_o a_o_howFar a_o_tones a_o_only a_o_fars a_o_cellAt a_o_ends a_o_seen a_o_begun : Nat) (o_last : Int32) (o_turnsLet : Int32) (o_slowsLet : Int32) (o_fuel : Int32) (o_glide : Int32) (o_count : Int32) (o_weightSum : Int64) (o_toPass : Int32) (o_foundNumber : Int32) (o_foundWeight : Int32) (o_foundTurns : Int32) (o_foundSlowed : Int32) (o_howFar : Nat → Int32) (o_tones : Nat → Int32) (o_only : Nat → Int32) (o_fars : Nat → Int32) (o_cellAt : Nat → Int32) (o_ends : Nat → Int64) (o_seen : Nat → Int32) (o_begun : Nat → Int32) (post : (Int32 × Int64 × Int32 × Int32 × Int32 × Int32 × Int32 × (Nat → Int32) × (Nat → Int64) × (Nat → Int32) × (Nat → Int32)) → Prop) (hf : okP (f_X5_goAll o_last o_turnsLet o_slowsLet o_fuel o_glide o_count o_weightSum o_toPass o_foundNumber o_foundWeight o_foundTurns o_foundSlowed o_howFar o_tones o_only o_fars o_cellAt o_ends o_seen o_begun) post) : Cv l (dC, dI) (tyL cyI cyJ cyO) yX5_goAll wsX5_goAll rm_X5_goAll [.ref h_o] sz (W_X5_goAll cyI cyJ cyO h_o a_o_howFar a_o_tones a_o_only a_o_fars a_o_cellAt a_o_ends a_o_seen a_o_begun o_last o_turnsLet o_slowsLet o_fuel o_glide o_count o_weightSum o_toPass o_foundNumber o_foundWeight o_foundTurns o_foundSlowed o_howFar o_tones o_only o_fars o_cellAt o_ends o_seen o_begun) (zX tD tR tL tM) (fun u => post u) (fun u => (W_X5_goAll cyI cyJ cyO h_o a_o_howFar a_o_tones a_o_only a_o_fars a_o_cellAt a_o_ends a_o_seen a_o_begun o_last o_turnsLet o_slowsLet o_fuel o_glide u.1 u.2.1 u.2.2.1 u.2.2.2.1 u.2.2.2.2.1 u.2.2.2.2.2.1 u.2.2.2.2.2.2.1 o_howFar o_tones o_only o_fars u.2.2.2.2.2.2.2.1 u.2.2.2.2.2.2.2.2.1 u.2.2.2.2.2.2.2.2.2.1 u.2.2.2.2.2.2.2.2.2.2)) := by
  refine Met.ofW (cc := cX5_goAll) (maxL := 3) (ret := none) (by decide) rfl ?_
  intro p e s m args below meth c s₁ B hml hv
  obtain ⟨rfl, hsz, hP, hK, hD0, hZ⟩ := hv
  have hx := B.exec
  have hb := B.bytes
  have hr := B.returns
  have hts := atoms_spec (ws := wsX5_goAll) B.pre
  have hown : s.vm.findClass RX5 = some m.cls := findClass_of_methodNamed B.named
  have hlocks := B.notSynchronized
  subst hsz
  have hD := hD0.self (sz := s.heap.size)
  generalize hAe : va_A (W_X5_goAll cyI cyJ cyO h_o a_o_howFar a_o_tones a_o_only a_o_fars a_o_cellAt a_o_ends a_o_seen a_o_begun o_last o_turnsLet o_slowsLet o_fuel o_glide o_count o_weightSum o_toPass o_foundNumber o_foundWeight o_foundTurns o_foundSlowed o_howFar o_tones o_only o_fars o_cellAt o_ends o_seen o_begun) s.heap.size = A at hD hZ ⊢
  have hA : ∀ q : Nat, s.heap.size ≤ q → A q := fun q h => by rw [← hAe]; exact Or.inr h
  clear hAe hD0
  have hS : va_S A s.heap s.heap [] := va_S.rf
  have hl := lv_entry ([.ref h_o]) (n := 3) (Nat.le_of_ble_eq_true rfl)
  rw [lg_entry_eq]
  generalize (lg_sl ([.ref h_o]) ++ List.replicate (3 - (lg_sl ([.ref h_o])).length) Slot.unset).toArray = ls at hl ⊢
  have hl : lv_has ls 3 [(0, .ref h_o)] := hl
  refine kW (fun Q hQ => ?_)
  have hq0 := hts _ (List.mem_cons_of_mem _ q_133)
  have hi5 : ∀ w ∈ u_ws RX5 TX5 20, w ∈ wsX5_goAll := fun w h => List.mem_cons_of_mem _ (inX5 w h)
  have hq2 := hts _ (List.mem_cons_of_mem _ q_126)
  have hq3 := hts _ (List.mem_cons_of_mem _ q_124)
  have hq4 := hts _ (List.mem_cons_of_mem _ q_132)
  have hq5 := hts _ (List.mem_cons_of_mem _ q_130)
  have hq6 := hts _ (List.mem_cons_of_mem _ q_128)
  have hq7 := hts _ (List.mem_cons_of_mem _ q_135)
  have hq8 := hts _ (List.mem_cons_of_mem _ q_137)
  have hq9 := hts _ (List.mem_cons_of_mem _ q_138)
  have hw := hf
  have w64 : ∀ (n : Nat), ∀ (v1 : Int32) (o_count : Int32) (o_weightSum : Int64) (o_toPass : Int32) (o_foundNumber : Int32) (o_foundWeight : Int32) (o_foundTurns : Int32) (o_foundSlowed : Int32) (o_cellAt : Nat → Int32) (o_ends : Nat → Int64) (o_seen : Nat → Int32) (o_begun : Nat → Int32) (H : Heap) (locs : List Loc), va_P (dC, dI) vwCl (W_X5_goAll cyI cyJ cyO h_o a_o_howFar a_o_tones a_o_only a_o_fars a_o_cellAt a_o_ends a_o_seen a_o_begun o_last o_turnsLet o_slowsLet o_fuel o_glide o_count o_weightSum o_toPass o_foundNumber o_foundWeight o_foundTurns o_foundSlowed o_howFar o_tones o_only o_fars o_cellAt o_ends o_seen o_begun) H → va_D A (W_X5_goAll cyI cyJ cyO h_o a_o_howFar a_o_tones a_o_only a_o_fars a_o_cellAt a_o_ends a_o_seen a_o_begun o_last o_turnsLet o_slowsLet o_fuel o_glide o_count o_weightSum o_toPass o_foundNumber o_foundWeight o_foundTurns o_foundSlowed o_howFar o_tones o_only o_fars o_cellAt o_ends o_seen o_begun) → va_S A s.heap H locs → ∀ (ls : Array Slot), lv_has ls 3 [(0, .ref h_o), (1, .int v1)] → okP (f_X5_goAll_L64 n v1 o_last o_turnsLet o_slowsLet o_fuel o_glide o_count o_weightSum o_toPass o_foundNumber o_foundWeight o_foundTurns o_foundSlowed o_howFar o_tones o_only o_fars o_cellAt o_ends o_seen o_begun) post → W p l e (headSpec wsX5_goAll rm_X5_goAll).room s m ([.ref h_o] : List Value).toArray below meth c H locs 0 0 Q (F0 m 64 ls []) := by
    intro n
    induction n with
    | zero =>
      intro v1 o_count o_weightSum o_toPass o_foundNumber o_foundWeight o_foundTurns o_foundSlowed o_cellAt o_ends o_seen o_begun H locs hP hD hS ls hl hw
      exact (ok0 hw).elim
    | succ n64 ih64 =>
      intro v1 o_count o_weightSum o_toPass o_foundNumber o_foundWeight o_foundTurns o_foundSlowed o_cellAt o_ends o_seen o_begun H locs hP hD hS ls hl hw
      replace hw : okP (f_X5_goAll_L64b (f_X5_goAll_L64 n64) v1 o_last o_turnsLet o_slowsLet o_fuel o_glide o_count o_weightSum o_toPass o_foundNumber o_foundWeight o_foundTurns o_foundSlowed o_howFar o_tones o_only o_fars o_cellAt o_ends o_seen o_begun) post := hw
      unfold f_X5_goAll_L64b at hw
      refine lv_iload_n hx hb dX5_goAll_64 rfl (lv_at hl 1 rfl) ?_
      refine lv_bipush (v := 24) hx hb dX5_goAll_65 (by decide) ?_
      refine lv_icmp_ge (tgt := 113) hx hb dX5_goAll_67 (by decide) (fun c_1 => ?_) (fun c_1 => ?_)
      · replace hw := okT hw c_1
        clear c_1
        refine lv_aload_n hx hb dX5_goAll_113 rfl (lv_at hl 0 rfl) ?_
        refine va_get (D := (dC, dI)) (ci := 5) (v := .int o_count) (C := RX5) (T := TX5) (N := 20) hx hb hts hi5 hown hK hP 0 rfl rfl 13 (by decide) hq0 (fun _ h9 => h9) rfl dX5_goAll_114 ?_
        refine lv_if_le (tgt := 131) hx hb dX5_goAll_117 (by decide) (fun c_2 => ?_) (fun c_2 => ?_)
        · replace hw := okT hw c_2
          clear c_2
          rw [hQ]
          exact W.vret hx hb hr (fun t ht hW => ⟨⟨(o_count, o_weightSum, o_toPass, o_foundNumber, o_foundWeight, o_foundTurns, o_foundSlowed, o_cellAt, o_ends, o_seen, o_begun), rfl, okS hw, by rw [ht]; exact hP, va_K.moved hW.alike hK, hD⟩, hS.F ht⟩) hS.2.2 dX5_goAll_131
        · replace hw := okF hw c_2
          clear c_2
          refine lv_aload_n hx hb dX5_goAll_120 rfl (lv_at hl 0 rfl) ?_
          refine lv_iconst (v := 0) hx hb dX5_goAll_121 (by decide) ?_
          refine lv_aload_n hx hb dX5_goAll_122 rfl (lv_at hl 0 rfl) ?_
          refine va_get (D := (dC, dI)) (ci := 5) (v := .ref a_o_cellAt) (C := RX5) (T := TX5) (N := 20) hx hb hts hi5 hown hK hP 0 rfl rfl 9 (by decide) hq2 (fun _ h9 => h9) rfl dX5_goAll_123 ?_
          refine lv_iconst (v := 0) hx hb dX5_goAll_126 (by decide) ?_
          refine va_iald (i := 0) hx hb hK hP 5 0 rfl rfl (show ¬ _ by decide) dX5_goAll_127 ?_
          have hPc := hP.sub (ws' := (W_X5_see cyI cyJ cyO h_o a_o_howFar a_o_tones a_o_only a_o_fars a_o_cellAt a_o_ends a_o_seen a_o_begun o_last o_turnsLet o_slowsLet o_fuel o_glide o_count o_weightSum o_toPass o_foundNumber o_foundWeight o_foundTurns o_foundSlowed o_seen)) [0, 7] rfl
          have hDc := hD.sub (ws' := (W_X5_see cyI cyJ cyO h_o a_o_howFar a_o_tones a_o_only a_o_fars a_o_cellAt a_o_ends a_o_seen a_o_begun o_last o_turnsLet o_slowsLet o_fuel o_glide o_count o_weightSum o_toPass o_foundNumber o_foundWeight o_foundTurns o_foundSlowed o_seen)) [0, 7] (by decide +kernel) rfl
          have hFc := va_free (wc := (W_X5_see cyI cyJ cyO h_o a_o_howFar a_o_tones a_o_only a_o_fars a_o_cellAt a_o_ends a_o_seen a_o_begun o_last o_turnsLet o_slowsLet o_fuel o_glide o_count o_weightSum o_toPass o_foundNumber o_foundWeight o_foundTurns o_foundSlowed o_seen)) hD hS hA [0, 7] rfl
          refine kc_v (wr := [(a_o_howFar, .inl (cyI, 7, .inl o_howFar)), (a_o_tones, .inl (cyI, 7, .inl o_tones)), (a_o_only, .inl (cyI, 7, .inl o_only)), (a_o_fars, .inl (cyI, 100, .inl o_fars)), (a_o_cellAt, .inl (cyI, 7, .inl o_cellAt)), (a_o_ends, .inl (cyJ, 100, .inr (.inl o_ends))), (a_o_begun, .inl (cyI, 24, .inl o_begun))]) (va_runV (As := [.int 0, .int (o_cellAt 0)]) (rest := []) ⟨hx, hb, hml, hown, hts⟩ (c_X5_see l dC dI cyI cyJ cyO H.size h_o a_o_howFar a_o_tones a_o_only a_o_fars a_o_cellAt a_o_ends a_o_seen a_o_begun o_last o_turnsLet o_slowsLet o_fuel o_glide o_count o_weightSum o_toPass o_foundNumber o_foundWeight o_foundTurns o_foundSlowed o_seen 0 (o_cellAt 0) _ (okb1 hw)) (cwV 2 hts (gdV (fun w h => List.mem_cons_of_mem _ h) q_447 q_449 qs_16 q_3 q_450) rfl rfl rfl (by decide +kernel) ⟨Nat.le_of_ble_eq_true rfl, Nat.le_of_ble_eq_true rfl⟩) ⟨(kpre zN_ok hK hPc hDc trivial hS hFc).1, va_recv hK hP (ci := 5) (q0 := 0) rfl rfl, (kpre zN_ok hK hPc hDc trivial hS hFc).2⟩ rfl rfl hl.1 rfl (lv_room (Nat.le_of_ble_eq_true rfl)) dX5_goAll_128 ⟨Nat.le_of_ble_eq_true rfl, Nat.le_of_ble_eq_true rfl⟩) hP hD hS hFc [0, 7] [1, 2, 3, 4, 5, 6, 8] rfl rfl (by decide +kernel) (by decide +kernel) (fun w_3 H locs hw hP hD hS => ?_)
          try dsimp only at hw
          have hP : va_P (dC, dI) vwCl (W_X5_goAll cyI cyJ cyO h_o a_o_howFar a_o_tones a_o_only a_o_fars a_o_cellAt a_o_ends a_o_seen a_o_begun o_last o_turnsLet o_slowsLet o_fuel o_glide o_count o_weightSum o_toPass o_foundNumber o_foundWeight o_foundTurns o_foundSlowed o_howFar o_tones o_only o_fars o_cellAt o_ends w_3 o_begun) H := hP.sub [7, 0, 1, 2, 3, 4, 5, 8, 6] rfl
          have hD : va_D A (W_X5_goAll cyI cyJ cyO h_o a_o_howFar a_o_tones a_o_only a_o_fars a_o_cellAt a_o_ends a_o_seen a_o_begun o_last o_turnsLet o_slowsLet o_fuel o_glide o_count o_weightSum o_toPass o_foundNumber o_foundWeight o_foundTurns o_foundSlowed o_howFar o_tones o_only o_fars o_cellAt o_ends w_3 o_begun) := hD.sub [7, 0, 1, 2, 3, 4, 5, 8, 6] (by decide +kernel) rfl
          clear hPc hDc hFc
          rw [hQ]
          exact W.vret hx hb hr (fun t ht hW => ⟨⟨(o_count, o_weightSum, o_toPass, o_foundNumber, o_foundWeight, o_foundTurns, o_foundSlowed, o_cellAt, o_ends, w_3, o_begun), rfl, okS hw, by rw [ht]; exact hP, va_K.moved hW.alike hK, hD⟩, hS.F ht⟩) hS.2.2 dX5_goAll_131
      · replace hw := okF hw c_1
        clear c_1
        refine lv_aload_n hx hb dX5_goAll_70 rfl (lv_at hl 0 rfl) ?_
        refine va_get (D := (dC, dI)) (ci := 5) (v := .int o_count) (C := RX5) (T := TX5) (N := 20) hx hb hts hi5 hown hK hP 0 rfl rfl 13 (by decide) hq0 (fun _ h9 => h9) rfl dX5_goAll_71 ?_
        refine lv_istore_n (lv' := [(2, .int o_count), (0, .ref h_o), (1, .int v1)]) hx hb dX5_goAll_74 rfl hl (by decide) rfl (fun ls hl => ?_)
        refine lv_aload_n hx hb dX5_goAll_75 rfl (lv_at hl 1 rfl) ?_
        refine lv_iconst (v := 0) hx hb dX5_goAll_76 (by decide) ?_
        refine lv_iload_n hx hb dX5_goAll_77 rfl (lv_at hl 2 rfl) ?_
        refine lv_iconst (v := 3) hx hb dX5_goAll_78 (by decide) ?_
        refine lv_idiv hx hb dX5_goAll_79 (by decide) ?_
        refine lv_iload_n hx hb dX5_goAll_80 rfl (lv_at hl 2 rfl) ?_
        refine lv_iconst (v := 3) hx hb dX5_goAll_81 (by decide) ?_
        refine lv_irem hx hb dX5_goAll_82 (by decide) ?_
        refine lv_iconst (v := 1) hx hb dX5_goAll_83 (by decide) ?_
        refine lv_iadd hx hb dX5_goAll_84 ?_
        refine lv_iconst (v := 0) hx hb dX5_goAll_85 (by decide) ?_
        refine lv_iconst (v := 0) hx hb dX5_goAll_86 (by decide) ?_
        refine lv_iconst (v := 1) hx hb dX5_goAll_87 (by decide) ?_
        refine lv_aload_n hx hb dX5_goAll_88 rfl (lv_at hl 1 rfl) ?_
        refine va_get (D := (dC, dI)) (ci := 5) (v := .int o_fuel) (C := RX5) (T := TX5) (N := 20) hx hb hts hi5 hown hK hP 0 rfl rfl 7 (by decide) hq3 (fun _ h9 => h9) rfl dX5_goAll_89 ?_
        have hPc := hP.sub (ws' := (W_X5_fly cyI cyJ cyO h_o a_o_howFar a_o_tones a_o_only a_o_fars a_o_cellAt a_o_ends a_o_seen a_o_begun o_last o_turnsLet o_slowsLet o_fuel o_glide o_count o_weightSum o_toPass o_foundNumber o_foundWeight o_foundTurns o_foundSlowed o_howFar o_tones o_only o_fars o_cellAt o_ends o_seen)) [0, 1, 2, 3, 4, 5, 6, 7] rfl
        have hDc := hD.sub (ws' := (W_X5_fly cyI cyJ cyO h_o a_o_howFar a_o_tones a_o_only a_o_fars a_o_cellAt a_o_ends a_o_seen a_o_begun o_last o_turnsLet o_slowsLet o_fuel o_glide o_count o_weightSum o_toPass o_foundNumber o_foundWeight o_foundTurns o_foundSlowed o_howFar o_tones o_only o_fars o_cellAt o_ends o_seen)) [0, 1, 2, 3, 4, 5, 6, 7] (by decide +kernel) rfl
        have hFc := va_free (wc := (W_X5_fly cyI cyJ cyO h_o a_o_howFar a_o_tones a_o_only a_o_fars a_o_cellAt a_o_ends a_o_seen a_o_begun o_last o_turnsLet o_slowsLet o_fuel o_glide o_count o_weightSum o_toPass o_foundNumber o_foundWeight o_foundTurns o_foundSlowed o_howFar o_tones o_only o_fars o_cellAt o_ends o_seen)) hD hS hA [0, 1, 2, 3, 4, 5, 6, 7] rfl
        refine kc_v (wr := [(a_o_begun, .inl (cyI, 24, .inl o_begun))]) (va_runV (As := [.int 0, .int (v1 / 3), .int ((v1 - v1 / 3 * 3) + 1), .int 0, .int 0, .int 1, .int o_fuel]) (rest := []) ⟨hx, hb, hml, hown, hts⟩ (c_X5_flyA l dC dI cyI cyJ cyO 8 H.size tD tR tL tM h_o a_o_howFar a_o_tones a_o_only a_o_fars a_o_cellAt a_o_ends a_o_seen a_o_begun o_last o_turnsLet o_slowsLet o_fuel o_glide o_count o_weightSum o_toPass o_foundNumber o_foundWeight o_foundTurns o_foundSlowed o_howFar o_tones o_only o_fars o_cellAt o_ends o_seen 0 (v1 / 3) ((v1 - v1 / 3 * 3) + 1) 0 0 1 o_fuel _ (okb9 hw)) (cwV 7 hts (gdV (fun w h => List.mem_cons_of_mem _ h) q_412 q_414 qs_10 q_3 q_415) rfl rfl rfl (by decide +kernel) ⟨Nat.le_of_ble_eq_true rfl, Nat.le_of_ble_eq_true rfl⟩) ⟨(kpre zX_ok hK hPc hDc hZ hS hFc).1, va_recv hK hP (ci := 5) (q0 := 0) rfl rfl, (kpre zX_ok hK hPc hDc hZ hS hFc).2⟩ rfl rfl hl.1 rfl (lv_room (Nat.le_of_ble_eq_true rfl)) dX5_goAll_92 ⟨Nat.le_of_ble_eq_true rfl, Nat.le_of_ble_eq_true rfl⟩) hP hD hS hFc [0, 1, 2, 3, 4, 5, 6, 7] [8] rfl rfl (by decide +kernel) (by decide +kernel) (fun u H locs hw hP hD hS => ?_)
        obtain ⟨w_4, w_5, w_6, w_7, w_8, w_9, w_10, w_11, w_12⟩ := u
        try dsimp only at hw
        have hP : va_P (dC, dI) vwCl (W_X5_goAll cyI cyJ cyO h_o a_o_howFar a_o_tones a_o_only a_o_fars a_o_cellAt a_o_ends a_o_seen a_o_begun o_last o_turnsLet o_slowsLet o_fuel o_glide w_4 w_5 w_6 o_foundNumber w_7 w_8 w_9 o_howFar o_tones o_only o_fars w_10 w_11 w_12 o_begun) H := hP.sub [1, 2, 3, 4, 5, 6, 7, 8, 0] rfl
        have hD : va_D A (W_X5_goAll cyI cyJ cyO h_o a_o_howFar a_o_tones a_o_only a_o_fars a_o_cellAt a_o_ends a_o_seen a_o_begun o_last o_turnsLet o_slowsLet o_fuel o_glide w_4 w_5 w_6 o_foundNumber w_7 w_8 w_9 o_howFar o_tones o_only o_fars w_10 w_11 w_12 o_begun) := hD.sub [1, 2, 3, 4, 5, 6, 7, 8, 0] (by decide +kernel) rfl
        clear hPc hDc hFc
        refine lv_aload_n hx hb dX5_goAll_95 rfl (lv_at hl 1 rfl) ?_
        refine va_get (D := (dC, dI)) (ci := 5) (v := .ref a_o_begun) (C := RX5) (T := TX5) (N := 20) hx hb hts hi5 hown hK hP 0 rfl rfl 12 (by decide) hq4 (fun _ h9 => h9) rfl dX5_goAll_96 ?_
        refine lv_iload_n hx hb dX5_goAll_99 rfl (lv_at hl 2 rfl) ?_
        refine lv_aload_n hx hb dX5_goAll_100 rfl (lv_at hl 1 rfl) ?_
        refine va_get (D := (dC, dI)) (ci := 5) (v := .int w_4) (C := RX5) (T := TX5) (N := 20) hx hb hts hi5 hown hK hP 0 rfl rfl 13 (by decide) hq0 (fun _ h9 => h9) rfl dX5_goAll_101 ?_
        refine lv_iload_n hx hb dX5_goAll_104 rfl (lv_at hl 0 rfl) ?_
        refine lv_isub hx hb dX5_goAll_105 ?_
        refine lv_topi (fun x_13 ex_13 => ?_)
        replace hw := okN ex_13 hw
        clear ex_13
        obtain ⟨h_14, hw⟩ := okC hw
        refine va_iast (i := v1) (x := x_13) hx hb hK hP hD hS 8 0 rfl rfl h_14 dX5_goAll_106 (fun H locs hP hD hS => ?_)
        have hP : va_P (dC, dI) vwCl (W_X5_goAll cyI cyJ cyO h_o a_o_howFar a_o_tones a_o_only a_o_fars a_o_cellAt a_o_ends a_o_seen a_o_begun o_last o_turnsLet o_slowsLet o_fuel o_glide w_4 w_5 w_6 o_foundNumber w_7 w_8 w_9 o_howFar o_tones o_only o_fars w_10 w_11 w_12 (upd o_begun v1.toNatClampNeg x_13)) H := hP
        have hD : va_D A (W_X5_goAll cyI cyJ cyO h_o a_o_howFar a_o_tones a_o_only a_o_fars a_o_cellAt a_o_ends a_o_seen a_o_begun o_last o_turnsLet o_slowsLet o_fuel o_glide w_4 w_5 w_6 o_foundNumber w_7 w_8 w_9 o_howFar o_tones o_only o_fars w_10 w_11 w_12 (upd o_begun v1.toNatClampNeg x_13)) := hD
        obtain ⟨x_15, ex_15⟩ : ∃ y : Int32, y = v1 + 1 := ⟨_, rfl⟩
        replace hw := okN ex_15 hw
        refine lv_iinc (v := x_15) (lv' := [(1, .int x_15), (2, .int o_count), (0, .ref h_o)]) hx hb dX5_goAll_107 hl (k := 2) rfl (by rw [ex_15]; rfl) (by decide) rfl (fun ls hl => ?_)
        clear ex_15
        refine lv_goto (tgt := 64) hx hb dX5_goAll_110 (by decide) ?_
        exact ih64 x_15 w_4 w_5 w_6 o_foundNumber w_7 w_8 w_9 w_10 w_11 w_12 (upd o_begun v1.toNatClampNeg x_13) _ _ hP hD hS _ (lv_sub hl [2, 0] rfl) hw
  have w43 : ∀ (n : Nat), ∀ (v1 : Int32) (o_count : Int32) (o_weightSum : Int64) (o_toPass : Int32) (o_foundNumber : Int32) (o_foundWeight : Int32) (o_foundTurns : Int32) (o_foundSlowed : Int32) (o_cellAt : Nat → Int32) (o_ends : Nat → Int64) (o_seen : Nat → Int32) (o_begun : Nat → Int32) (H : Heap) (locs : List Loc), va_P (dC, dI) vwCl (W_X5_goAll cyI cyJ cyO h_o a_o_howFar a_o_tones a_o_only a_o_fars a_o_cellAt a_o_ends a_o_seen a_o_begun o_last o_turnsLet o_slowsLet o_fuel o_glide o_count o_weightSum o_toPass o_foundNumber o_foundWeight o_foundTurns o_foundSlowed o_howFar o_tones o_only o_fars o_cellAt o_ends o_seen o_begun) H → va_D A (W_X5_goAll cyI cyJ cyO h_o a_o_howFar a_o_tones a_o_only a_o_fars a_o_cellAt a_o_ends a_o_seen a_o_begun o_last o_turnsLet o_slowsLet o_fuel o_glide o_count o_weightSum o_toPass o_foundNumber o_foundWeight o_foundTurns o_foundSlowed o_howFar o_tones o_only o_fars o_cellAt o_ends o_seen o_begun) → va_S A s.heap H locs → ∀ (ls : Array Slot), lv_has ls 3 [(0, .ref h_o), (1, .int v1)] → okP (f_X5_goAll_L43 n v1 o_last o_turnsLet o_slowsLet o_fuel o_glide o_count o_weightSum o_toPass o_foundNumber o_foundWeight o_foundTurns o_foundSlowed o_howFar o_tones o_only o_fars o_cellAt o_ends o_seen o_begun) post → W p l e (headSpec wsX5_goAll rm_X5_goAll).room s m ([.ref h_o] : List Value).toArray below meth c H locs 0 0 Q (F0 m 43 ls []) := by
    intro n
    induction n with
    | zero =>
      intro v1 o_count o_weightSum o_toPass o_foundNumber o_foundWeight o_foundTurns o_foundSlowed o_cellAt o_ends o_seen o_begun H locs hP hD hS ls hl hw
      exact (ok0 hw).elim
    | succ n43 ih43 =>
      intro v1 o_count o_weightSum o_toPass o_foundNumber o_foundWeight o_foundTurns o_foundSlowed o_cellAt o_ends o_seen o_begun H locs hP hD hS ls hl hw
      replace hw : okP (f_X5_goAll_L43b (f_X5_goAll_L43 n43) v1 o_last o_turnsLet o_slowsLet o_fuel o_glide o_count o_weightSum o_toPass o_foundNumber o_foundWeight o_foundTurns o_foundSlowed o_howFar o_tones o_only o_fars o_cellAt o_ends o_seen o_begun) post := hw
      unfold f_X5_goAll_L43b at hw
      refine lv_iload_n hx hb dX5_goAll_43 rfl (lv_at hl 1 rfl) ?_
      refine lv_bipush (v := 70) hx hb dX5_goAll_44 (by decide) ?_
      refine lv_icmp_ge (tgt := 62) hx hb dX5_goAll_46 (by decide) (fun c_16 => ?_) (fun c_16 => ?_)
      · replace hw := okT hw c_16
        clear c_16
        refine lv_iconst (v := 0) hx hb dX5_goAll_62 (by decide) ?_
        refine lv_istore_n (lv' := [(1, .int 0), (0, .ref h_o)]) hx hb dX5_goAll_63 rfl hl (by decide) rfl (fun ls hl => ?_)
        exact w64 FU 0 o_count o_weightSum o_toPass o_foundNumber o_foundWeight o_foundTurns o_foundSlowed o_cellAt o_ends o_seen o_begun _ _ hP hD hS _ (lv_sub hl [1, 0] rfl) hw
      · replace hw := okF hw c_16
        clear c_16
        refine lv_aload_n hx hb dX5_goAll_49 rfl (lv_at hl 0 rfl) ?_
        refine va_get (D := (dC, dI)) (ci := 5) (v := .ref a_o_seen) (C := RX5) (T := TX5) (N := 20) hx hb hts hi5 hown hK hP 0 rfl rfl 11 (by decide) hq5 (fun _ h9 => h9) rfl dX5_goAll_50 ?_
        refine lv_iload_n hx hb dX5_goAll_53 rfl (lv_at hl 1 rfl) ?_
        refine lv_iconst (v := 0) hx hb dX5_goAll_54 (by decide) ?_
        obtain ⟨h_17, hw⟩ := okC hw
        refine va_iast (i := v1) (x := 0) hx hb hK hP hD hS 7 0 rfl rfl h_17 dX5_goAll_55 (fun H locs hP hD hS => ?_)
        have hP : va_P (dC, dI) vwCl (W_X5_goAll cyI cyJ cyO h_o a_o_howFar a_o_tones a_o_only a_o_fars a_o_cellAt a_o_ends a_o_seen a_o_begun o_last o_turnsLet o_slowsLet o_fuel o_glide o_count o_weightSum o_toPass o_foundNumber o_foundWeight o_foundTurns o_foundSlowed o_howFar o_tones o_only o_fars o_cellAt o_ends (upd o_seen v1.toNatClampNeg 0) o_begun) H := hP
        have hD : va_D A (W_X5_goAll cyI cyJ cyO h_o a_o_howFar a_o_tones a_o_only a_o_fars a_o_cellAt a_o_ends a_o_seen a_o_begun o_last o_turnsLet o_slowsLet o_fuel o_glide o_count o_weightSum o_toPass o_foundNumber o_foundWeight o_foundTurns o_foundSlowed o_howFar o_tones o_only o_fars o_cellAt o_ends (upd o_seen v1.toNatClampNeg 0) o_begun) := hD
        obtain ⟨x_18, ex_18⟩ : ∃ y : Int32, y = v1 + 1 := ⟨_, rfl⟩
        replace hw := okN ex_18 hw
        refine lv_iinc (v := x_18) (lv' := [(1, .int x_18), (0, .ref h_o)]) hx hb dX5_goAll_56 hl (k := 1) rfl (by rw [ex_18]; rfl) (by decide) rfl (fun ls hl => ?_)
        clear ex_18
        refine lv_goto (tgt := 43) hx hb dX5_goAll_59 (by decide) ?_
        exact ih43 x_18 o_count o_weightSum o_toPass o_foundNumber o_foundWeight o_foundTurns o_foundSlowed o_cellAt o_ends (upd o_seen v1.toNatClampNeg 0) o_begun _ _ hP hD hS _ (lv_sub hl [1, 0] rfl) hw
  have w22 : ∀ (n : Nat), ∀ (v1 : Int32) (o_count : Int32) (o_weightSum : Int64) (o_toPass : Int32) (o_foundNumber : Int32) (o_foundWeight : Int32) (o_foundTurns : Int32) (o_foundSlowed : Int32) (o_cellAt : Nat → Int32) (o_ends : Nat → Int64) (o_seen : Nat → Int32) (o_begun : Nat → Int32) (H : Heap) (locs : List Loc), va_P (dC, dI) vwCl (W_X5_goAll cyI cyJ cyO h_o a_o_howFar a_o_tones a_o_only a_o_fars a_o_cellAt a_o_ends a_o_seen a_o_begun o_last o_turnsLet o_slowsLet o_fuel o_glide o_count o_weightSum o_toPass o_foundNumber o_foundWeight o_foundTurns o_foundSlowed o_howFar o_tones o_only o_fars o_cellAt o_ends o_seen o_begun) H → va_D A (W_X5_goAll cyI cyJ cyO h_o a_o_howFar a_o_tones a_o_only a_o_fars a_o_cellAt a_o_ends a_o_seen a_o_begun o_last o_turnsLet o_slowsLet o_fuel o_glide o_count o_weightSum o_toPass o_foundNumber o_foundWeight o_foundTurns o_foundSlowed o_howFar o_tones o_only o_fars o_cellAt o_ends o_seen o_begun) → va_S A s.heap H locs → ∀ (ls : Array Slot), lv_has ls 3 [(0, .ref h_o), (1, .int v1)] → okP (f_X5_goAll_L22 n v1 o_last o_turnsLet o_slowsLet o_fuel o_glide o_count o_weightSum o_toPass o_foundNumber o_foundWeight o_foundTurns o_foundSlowed o_howFar o_tones o_only o_fars o_cellAt o_ends o_seen o_begun) post → W p l e (headSpec wsX5_goAll rm_X5_goAll).room s m ([.ref h_o] : List Value).toArray below meth c H locs 0 0 Q (F0 m 22 ls []) := by
    intro n
    induction n with
    | zero =>
      intro v1 o_count o_weightSum o_toPass o_foundNumber o_foundWeight o_foundTurns o_foundSlowed o_cellAt o_ends o_seen o_begun H locs hP hD hS ls hl hw
      exact (ok0 hw).elim
    | succ n22 ih22 =>
      intro v1 o_count o_weightSum o_toPass o_foundNumber o_foundWeight o_foundTurns o_foundSlowed o_cellAt o_ends o_seen o_begun H locs hP hD hS ls hl hw
      replace hw : okP (f_X5_goAll_L22b (f_X5_goAll_L22 n22) v1 o_last o_turnsLet o_slowsLet o_fuel o_glide o_count o_weightSum o_toPass o_foundNumber o_foundWeight o_foundTurns o_foundSlowed o_howFar o_tones o_only o_fars o_cellAt o_ends o_seen o_begun) post := hw
      unfold f_X5_goAll_L22b at hw
      refine lv_iload_n hx hb dX5_goAll_22 rfl (lv_at hl 1 rfl) ?_
      refine lv_bipush (v := 100) hx hb dX5_goAll_23 (by decide) ?_
      refine lv_icmp_ge (tgt := 41) hx hb dX5_goAll_25 (by decide) (fun c_19 => ?_) (fun c_19 => ?_)
      · replace hw := okT hw c_19
        clear c_19
        refine lv_iconst (v := 0) hx hb dX5_goAll_41 (by decide) ?_
        refine lv_istore_n (lv' := [(1, .int 0), (0, .ref h_o)]) hx hb dX5_goAll_42 rfl hl (by decide) rfl (fun ls hl => ?_)
        exact w43 FU 0 o_count o_weightSum o_toPass o_foundNumber o_foundWeight o_foundTurns o_foundSlowed o_cellAt o_ends o_seen o_begun _ _ hP hD hS _ (lv_sub hl [1, 0] rfl) hw
      · replace hw := okF hw c_19
        clear c_19
        refine lv_aload_n hx hb dX5_goAll_28 rfl (lv_at hl 0 rfl) ?_
        refine va_get (D := (dC, dI)) (ci := 5) (v := .ref a_o_ends) (C := RX5) (T := TX5) (N := 20) hx hb hts hi5 hown hK hP 0 rfl rfl 10 (by decide) hq6 (fun _ h9 => h9) rfl dX5_goAll_29 ?_
        refine lv_iload_n hx hb dX5_goAll_32 rfl (lv_at hl 1 rfl) ?_
        refine lv_lconst (v := 0) hx hb dX5_goAll_33 (by decide) ?_
        obtain ⟨h_20, hw⟩ := okC hw
        refine va_last (i := v1) (x := 0) hx hb hK hP hD hS 6 1 rfl rfl h_20 dX5_goAll_34 (fun H locs hP hD hS => ?_)
        have hP : va_P (dC, dI) vwCl (W_X5_goAll cyI cyJ cyO h_o a_o_howFar a_o_tones a_o_only a_o_fars a_o_cellAt a_o_ends a_o_seen a_o_begun o_last o_turnsLet o_slowsLet o_fuel o_glide o_count o_weightSum o_toPass o_foundNumber o_foundWeight o_foundTurns o_foundSlowed o_howFar o_tones o_only o_fars o_cellAt (vp_updL o_ends v1.toNatClampNeg 0) o_seen o_begun) H := hP
        have hD : va_D A (W_X5_goAll cyI cyJ cyO h_o a_o_howFar a_o_tones a_o_only a_o_fars a_o_cellAt a_o_ends a_o_seen a_o_begun o_last o_turnsLet o_slowsLet o_fuel o_glide o_count o_weightSum o_toPass o_foundNumber o_foundWeight o_foundTurns o_foundSlowed o_howFar o_tones o_only o_fars o_cellAt (vp_updL o_ends v1.toNatClampNeg 0) o_seen o_begun) := hD
        obtain ⟨x_21, ex_21⟩ : ∃ y : Int32, y = v1 + 1 := ⟨_, rfl⟩
        replace hw := okN ex_21 hw
        refine lv_iinc (v := x_21) (lv' := [(1, .int x_21), (0, .ref h_o)]) hx hb dX5_goAll_35 hl (k := 1) rfl (by rw [ex_21]; rfl) (by decide) rfl (fun ls hl => ?_)
        clear ex_21
        refine lv_goto (tgt := 22) hx hb dX5_goAll_38 (by decide) ?_
        exact ih22 x_21 o_count o_weightSum o_toPass o_foundNumber o_foundWeight o_foundTurns o_foundSlowed o_cellAt (vp_updL o_ends v1.toNatClampNeg 0) o_seen o_begun _ _ hP hD hS _ (lv_sub hl [1, 0] rfl) hw
  unfold f_X5_goAll at hw
  have hP : va_P (dC, dI) vwCl (W_X5_goAll cyI cyJ cyO h_o a_o_howFar a_o_tones a_o_only a_o_fars a_o_cellAt a_o_ends a_o_seen a_o_begun o_last o_turnsLet o_slowsLet o_fuel o_glide o_count o_weightSum o_toPass o_foundNumber o_foundWeight o_foundTurns o_foundSlowed o_howFar o_tones o_only o_fars o_cellAt o_ends o_seen o_begun) s.heap := hP
  obtain ⟨H, hH⟩ : ∃ H, H = s.heap := ⟨_, rfl⟩
  obtain ⟨locs, hlo⟩ : ∃ x : List Loc, x = [] := ⟨_, rfl⟩
  have hP : va_P (dC, dI) vwCl (W_X5_goAll cyI cyJ cyO h_o a_o_howFar a_o_tones a_o_only a_o_fars a_o_cellAt a_o_ends a_o_seen a_o_begun o_last o_turnsLet o_slowsLet o_fuel o_glide o_count o_weightSum o_toPass o_foundNumber o_foundWeight o_foundTurns o_foundSlowed o_howFar o_tones o_only o_fars o_cellAt o_ends o_seen o_begun) H := by rw [hH]; exact hP
  have hS : va_S A s.heap H locs := by rw [hH, hlo]; exact hS
  refine kH hH hlo ?_
  clear hH hlo
  refine lv_aload_n hx hb dX5_goAll_0 rfl (lv_at hl 0 rfl) ?_
  refine lv_iconst (v := 0) hx hb dX5_goAll_1 (by decide) ?_
  refine va_put (D := (dC, dI)) (ci := 5) (v := .int 0) (ty := .int) (C := RX5) (T := TX5) (N := 20) hx hb hts hi5 tyX5 tyX5_ok nmX5 hown hK hP hD hS 0 rfl rfl 13 (by decide) hq0 (fun _ h9 => h9) rfl (by decide +kernel) rfl rfl (Nat.le_of_ble_eq_true rfl) dX5_goAll_2 (fun H locs hP hD hS => ?_)
  have hP : va_P (dC, dI) vwCl (W_X5_goAll cyI cyJ cyO h_o a_o_howFar a_o_tones a_o_only a_o_fars a_o_cellAt a_o_ends a_o_seen a_o_begun o_last o_turnsLet o_slowsLet o_fuel o_glide 0 o_weightSum o_toPass o_foundNumber o_foundWeight o_foundTurns o_foundSlowed o_howFar o_tones o_only o_fars o_cellAt o_ends o_seen o_begun) H := hP
  have hD : va_D A (W_X5_goAll cyI cyJ cyO h_o a_o_howFar a_o_tones a_o_only a_o_fars a_o_cellAt a_o_ends a_o_seen a_o_begun o_last o_turnsLet o_slowsLet o_fuel o_glide 0 o_weightSum o_toPass o_foundNumber o_foundWeight o_foundTurns o_foundSlowed o_howFar o_tones o_only o_fars o_cellAt o_ends o_seen o_begun) := hD
  refine lv_aload_n hx hb dX5_goAll_5 rfl (lv_at hl 0 rfl) ?_
  refine lv_lconst (v := 0) hx hb dX5_goAll_6 (by decide) ?_
  refine va_put (D := (dC, dI)) (ci := 5) (v := .long 0) (ty := .long) (C := RX5) (T := TX5) (N := 20) hx hb hts hi5 tyX5 tyX5_ok nmX5 hown hK hP hD hS 0 rfl rfl 14 (by decide) hq7 (fun _ h9 => h9) rfl (by decide +kernel) rfl rfl (Nat.le_of_ble_eq_true rfl) dX5_goAll_7 (fun H locs hP hD hS => ?_)
  have hP : va_P (dC, dI) vwCl (W_X5_goAll cyI cyJ cyO h_o a_o_howFar a_o_tones a_o_only a_o_fars a_o_cellAt a_o_ends a_o_seen a_o_begun o_last o_turnsLet o_slowsLet o_fuel o_glide 0 0 o_toPass o_foundNumber o_foundWeight o_foundTurns o_foundSlowed o_howFar o_tones o_only o_fars o_cellAt o_ends o_seen o_begun) H := hP
  have hD : va_D A (W_X5_goAll cyI cyJ cyO h_o a_o_howFar a_o_tones a_o_only a_o_fars a_o_cellAt a_o_ends a_o_seen a_o_begun o_last o_turnsLet o_slowsLet o_fuel o_glide 0 0 o_toPass o_foundNumber o_foundWeight o_foundTurns o_foundSlowed o_howFar o_tones o_only o_fars o_cellAt o_ends o_seen o_begun) := hD
  refine lv_aload_n hx hb dX5_goAll_10 rfl (lv_at hl 0 rfl) ?_
  refine lv_iconst (v := (-1)) hx hb dX5_goAll_11 (by decide) ?_
  refine va_put (D := (dC, dI)) (ci := 5) (v := .int (-1)) (ty := .int) (C := RX5) (T := TX5) (N := 20) hx hb hts hi5 tyX5 tyX5_ok nmX5 hown hK hP hD hS 0 rfl rfl 15 (by decide) hq8 (fun _ h9 => h9) rfl (by decide +kernel) rfl rfl (Nat.le_of_ble_eq_true rfl) dX5_goAll_12 (fun H locs hP hD hS => ?_)
  have hP : va_P (dC, dI) vwCl (W_X5_goAll cyI cyJ cyO h_o a_o_howFar a_o_tones a_o_only a_o_fars a_o_cellAt a_o_ends a_o_seen a_o_begun o_last o_turnsLet o_slowsLet o_fuel o_glide 0 0 (-1) o_foundNumber o_foundWeight o_foundTurns o_foundSlowed o_howFar o_tones o_only o_fars o_cellAt o_ends o_seen o_begun) H := hP
  have hD : va_D A (W_X5_goAll cyI cyJ cyO h_o a_o_howFar a_o_tones a_o_only a_o_fars a_o_cellAt a_o_ends a_o_seen a_o_begun o_last o_turnsLet o_slowsLet o_fuel o_glide 0 0 (-1) o_foundNumber o_foundWeight o_foundTurns o_foundSlowed o_howFar o_tones o_only o_fars o_cellAt o_ends o_seen o_begun) := hD
  refine lv_aload_n hx hb dX5_goAll_15 rfl (lv_at hl 0 rfl) ?_
  refine lv_iconst (v := (-1)) hx hb dX5_goAll_16 (by decide) ?_
  refine va_put (D := (dC, dI)) (ci := 5) (v := .int (-1)) (ty := .int) (C := RX5) (T := TX5) (N := 20) hx hb hts hi5 tyX5 tyX5_ok nmX5 hown hK hP hD hS 0 rfl rfl 16 (by decide) hq9 (fun _ h9 => h9) rfl (by decide +kernel) rfl rfl (Nat.le_of_ble_eq_true rfl) dX5_goAll_17 (fun H locs hP hD hS => ?_)
  have hP : va_P (dC, dI) vwCl (W_X5_goAll cyI cyJ cyO h_o a_o_howFar a_o_tones a_o_only a_o_fars a_o_cellAt a_o_ends a_o_seen a_o_begun o_last o_turnsLet o_slowsLet o_fuel o_glide 0 0 (-1) (-1) o_foundWeight o_foundTurns o_foundSlowed o_howFar o_tones o_only o_fars o_cellAt o_ends o_seen o_begun) H := hP
  have hD : va_D A (W_X5_goAll cyI cyJ cyO h_o a_o_howFar a_o_tones a_o_only a_o_fars a_o_cellAt a_o_ends a_o_seen a_o_begun o_last o_turnsLet o_slowsLet o_fuel o_glide 0 0 (-1) (-1) o_foundWeight o_foundTurns o_foundSlowed o_howFar o_tones o_only o_fars o_cellAt o_ends o_seen o_begun) := hD
  refine lv_iconst (v := 0) hx hb dX5_goAll_20 (by decide) ?_
  refine lv_istore_n (lv' := [(1, .int 0), (0, .ref h_o)]) hx hb dX5_goAll_21 rfl hl (by decide) rfl (fun ls hl => ?_)
  exact w22 FU 0 0 0 (-1) (-1) o_foundWeight o_foundTurns o_foundSlowed o_cellAt o_ends o_seen o_begun _ _ hP hD hS _ (lv_sub hl [1, 0] rfl) hw
/-! ===== X5_find ===== -/
theorem dX5_find_0 : decode cX5_find 0 = .ok (.iload_n 1, 1) := by decide +kernel
theorem dX5_find_1 : decode cX5_find 1 = .ok (.ifCond .lt 11, 3) := by decide +kernel
theorem dX5_find_4 : decode cX5_find 4 = .ok (.iload_n 1, 1) := by decide +kernel
theorem dX5_find_5 : decode cX5_find 5 = .ok (.aload_n 0, 1) := by decide +kernel
theorem dX5_find_6 : decode cX5_find 6 = .ok (.getfield 54, 3) := by decide +kernel
theorem dX5_find_9 : decode cX5_find 9 = .ok (.if_icmp .lt 5, 3) := by decide +kernel
theorem dX5_find_12 : decode cX5_find 12 = .ok (.iconst 0, 1) := by decide +kernel
theorem dX5_find_13 : decode cX5_find 13 = .ok (.ireturn, 1) := by decide +kernel
theorem dX5_find_14 : decode cX5_find 14 = .ok (.iload_n 1, 1) := by decide +kernel
theorem dX5_find_15 : decode cX5_find 15 = .ok (.aload_n 0, 1) := by decide +kernel
theorem dX5_find_16 : decode cX5_find 16 = .ok (.getfield 64, 3) := by decide +kernel
theorem dX5_find_19 : decode cX5_find 19 = .ok (.if_icmp .ne 5, 3) := by decide +kernel
theorem dX5_find_22 : decode cX5_find 22 = .ok (.iconst 1, 1) := by decide +kernel
theorem dX5_find_23 : decode cX5_find 23 = .ok (.ireturn, 1) := by decide +kernel
theorem dX5_find_24 : decode cX5_find 24 = .ok (.iload_n 1, 1) := by decide +kernel
theorem dX5_find_25 : decode cX5_find 25 = .ok (.istore_n 2, 1) := by decide +kernel
theorem dX5_find_26 : decode cX5_find 26 = .ok (.aload_n 0, 1) := by decide +kernel
theorem dX5_find_27 : decode cX5_find 27 = .ok (.iconst (-1), 1) := by decide +kernel
theorem dX5_find_28 : decode cX5_find 28 = .ok (.putfield 64, 3) := by decide +kernel
theorem dX5_find_31 : decode cX5_find 31 = .ok (.iconst 0, 1) := by decide +kernel
theorem dX5_find_32 : decode cX5_find 32 = .ok (.istore_n 3, 1) := by decide +kernel
theorem dX5_find_33 : decode cX5_find 33 = .ok (.iload_n 3, 1) := by decide +kernel
theorem dX5_find_34 : decode cX5_find 34 = .ok (.bipush 24, 2) := by decide +kernel
theorem dX5_find_36 : decode cX5_find 36 = .ok (.if_icmp .ge 60, 3) := by decide +kernel
theorem dX5_find_39 : decode cX5_find 39 = .ok (.iload_n 2, 1) := by decide +kernel
theorem dX5_find_40 : decode cX5_find 40 = .ok (.aload_n 0, 1) := by decide +kernel
theorem dX5_find_41 : decode cX5_find 41 = .ok (.getfield 51, 3) := by decide +kernel
theorem dX5_find_44 : decode cX5_find 44 = .ok (.iload_n 3, 1) := by decide +kernel
theorem dX5_find_45 : decode cX5_find 45 = .ok (.iaload, 1) := by decide +kernel
theorem dX5_find_46 : decode cX5_find 46 = .ok (.if_icmp .ge 35, 3) := by decide +kernel
theorem dX5_find_49 : decode cX5_find 49 = .ok (.aload_n 0, 1) := by decide +kernel
theorem dX5_find_50 : decode cX5_find 50 = .ok (.iload_n 2, 1) := by decide +kernel
theorem dX5_find_51 : decode cX5_find 51 = .ok (.putfield 61, 3) := by decide +kernel
theorem dX5_find_54 : decode cX5_find 54 = .ok (.aload_n 0, 1) := by decide +kernel
theorem dX5_find_55 : decode cX5_find 55 = .ok (.iconst 0, 1) := by decide +kernel
theorem dX5_find_56 : decode cX5_find 56 = .ok (.iload_n 3, 1) := by decide +kernel
theorem dX5_find_57 : decode cX5_find 57 = .ok (.iconst 3, 1) := by decide +kernel
theorem dX5_find_58 : decode cX5_find 58 = .ok (.idiv, 1) := by decide +kernel
theorem dX5_find_59 : decode cX5_find 59 = .ok (.iload_n 3, 1) := by decide +kernel
theorem dX5_find_60 : decode cX5_find 60 = .ok (.iconst 3, 1) := by decide +kernel
theorem dX5_find_61 : decode cX5_find 61 = .ok (.irem, 1) := by decide +kernel
theorem dX5_find_62 : decode cX5_find 62 = .ok (.iconst 1, 1) := by decide +kernel
theorem dX5_find_63 : decode cX5_find 63 = .ok (.iadd, 1) := by decide +kernel
theorem dX5_find_64 : decode cX5_find 64 = .ok (.iconst 0, 1) := by decide +kernel
theorem dX5_find_65 : decode cX5_find 65 = .ok (.iconst 0, 1) := by decide +kernel
theorem dX5_find_66 : decode cX5_find 66 = .ok (.iconst 1, 1) := by decide +kernel
theorem dX5_find_67 : decode cX5_find 67 = .ok (.aload_n 0, 1) := by decide +kernel
theorem dX5_find_68 : decode cX5_find 68 = .ok (.getfield 35, 3) := by decide +kernel
theorem dX5_find_71 : decode cX5_find 71 = .ok (.invokevirtual 103, 3) := by decide +kernel
theorem dX5_find_74 : decode cX5_find 74 = .ok (.aload_n 0, 1) := by decide +kernel
theorem dX5_find_75 : decode cX5_find 75 = .ok (.iload_n 1, 1) := by decide +kernel
theorem dX5_find_76 : decode cX5_find 76 = .ok (.putfield 64, 3) := by decide +kernel
theorem dX5_find_79 : decode cX5_find 79 = .ok (.iconst 1, 1) := by decide +kernel
theorem dX5_find_80 : decode cX5_find 80 = .ok (.ireturn, 1) := by decide +kernel
theorem dX5_find_81 : decode cX5_find 81 = .ok (.iload_n 2, 1) := by decide +kernel
theorem dX5_find_82 : decode cX5_find 82 = .ok (.aload_n 0, 1) := by decide +kernel
theorem dX5_find_83 : decode cX5_find 83 = .ok (.getfield 51, 3) := by decide +kernel
theorem dX5_find_86 : decode cX5_find 86 = .ok (.iload_n 3, 1) := by decide +kernel
theorem dX5_find_87 : decode cX5_find 87 = .ok (.iaload, 1) := by decide +kernel
theorem dX5_find_88 : decode cX5_find 88 = .ok (.isub, 1) := by decide +kernel
theorem dX5_find_89 : decode cX5_find 89 = .ok (.istore_n 2, 1) := by decide +kernel
theorem dX5_find_90 : decode cX5_find 90 = .ok (.iinc 3 1, 3) := by decide +kernel
theorem dX5_find_93 : decode cX5_find 93 = .ok (.goto (-60), 3) := by decide +kernel
theorem dX5_find_96 : decode cX5_find 96 = .ok (.iconst 0, 1) := by decide +kernel
theorem dX5_find_97 : decode cX5_find 97 = .ok (.ireturn, 1) := by decide +kernel
abbrev W_X5_find (cyI cyJ cyO : ClassId) (h_o a_o_howFar a_o_tones a_o_only a_o_fars a_o_cellAt a_o_ends a_o_seen a_o_begun : Nat) (o_last : Int32) (o_turnsLet : Int32) (o_slowsLet : Int32) (o_fuel : Int32) (o_glide : Int32) (o_count : Int32) (o_weightSum : Int64) (o_toPass : Int32) (o_foundNumber : Int32) (o_foundWeight : Int32) (o_foundTurns : Int32) (o_foundSlowed : Int32) (o_howFar : Nat → Int32) (o_tones : Nat → Int32) (o_only : Nat → Int32) (o_fars : Nat → Int32) (o_cellAt : Nat → Int32) (o_ends : Nat → Int64) (o_seen : Nat → Int32) (o_begun : Nat → Int32) : va_W := [(h_o, .inr (5, [.ref a_o_howFar, .ref a_o_tones, .ref a_o_only, .ref a_o_fars, .int o_last, .int o_turnsLet, .int o_slowsLet, .int o_fuel, .int o_glide, .ref a_o_cellAt, .ref a_o_ends, .ref a_o_seen, .ref a_o_begun, .int o_count, .long o_weightSum, .int o_toPass, .int o_foundNumber, .int o_foundWeight, .int o_foundTurns, .int o_foundSlowed])), (a_o_howFar, .inl (cyI, 7, .inl o_howFar)), (a_o_tones, .inl (cyI, 7, .inl o_tones)), (a_o_only, .inl (cyI, 7, .inl o_only)), (a_o_fars, .inl (cyI, 100, .inl o_fars)), (a_o_cellAt, .inl (cyI, 7, .inl o_cellAt)), (a_o_ends, .inl (cyJ, 100, .inr (.inl o_ends))), (a_o_seen, .inl (cyI, 70, .inl o_seen)), (a_o_begun, .inl (cyI, 24, .inl o_begun))]
def f_X5_find_L33b (k33 : Int32 → Int32 → Int32 → Int32 → Int32 → Int32 → Int32 → Int32 → Int32 → Int64 → Int32 → Int32 → Int32 → Int32 → Int32 → (Nat → Int32) → (Nat → Int32) → (Nat → Int32) → (Nat → Int32) → (Nat → Int32) → (Nat → Int64) → (Nat → Int32) → (Nat → Int32) → Option (Int32 × Int32 × Int64 × Int32 × Int32 × Int32 × Int32 × Int32 × (Nat → Int32) × (Nat → Int64) × (Nat → Int32))) (v1 : Int32) (v2 : Int32) (v3 : Int32) (o_last : Int32) (o_turnsLet : Int32) (o_slowsLet : Int32) (o_fuel : Int32) (o_glide : Int32) (o_count : Int32) (o_weightSum : Int64) (o_toPass : Int32) (o_foundNumber : Int32) (o_foundWeight : Int32) (o_foundTurns : Int32) (o_foundSlowed : Int32) (o_howFar : Nat → Int32) (o_tones : Nat → Int32) (o_only : Nat → Int32) (o_fars : Nat → Int32) (o_cellAt : Nat → Int32) (o_ends : Nat → Int64) (o_seen : Nat → Int32) (o_begun : Nat → Int32) : Option (Int32 × Int32 × Int64 × Int32 × Int32 × Int32 × Int32 × Int32 × (Nat → Int32) × (Nat → Int64) × (Nat → Int32)) :=
  if 24 ≤ v3 then
    some (0, o_count, o_weightSum, o_toPass, o_foundNumber, o_foundWeight, o_foundTurns, o_foundSlowed, o_cellAt, o_ends, o_seen)
  else
    chk (¬ (v3 < 0 ∨ 24 ≤ v3.toNatClampNeg)) <|
    if (o_begun v3.toNatClampNeg) ≤ v2 then
      chk (¬ (v3 < 0 ∨ 24 ≤ v3.toNatClampNeg)) <|
      nm (v2 - (o_begun v3.toNatClampNeg)) fun x_1 =>
      nm (v3 + 1) fun x_2 =>
      k33 v1 x_1 x_2 o_last o_turnsLet o_slowsLet o_fuel o_glide o_count o_weightSum o_toPass o_foundNumber o_foundWeight o_foundTurns o_foundSlowed o_howFar o_tones o_only o_fars o_cellAt o_ends o_seen o_begun
    else
      bd9 (f_X5_fly 8 0 (v3 / 3) ((v3 - v3 / 3 * 3) + 1) 0 0 1 o_fuel o_last o_turnsLet o_slowsLet o_glide o_count o_weightSum v2 o_foundWeight o_foundTurns o_foundSlowed o_howFar o_tones o_only o_fars o_cellAt o_ends o_seen) fun w_3 w_4 w_5 w_6 w_7 w_8 w_9 w_10 w_11 =>
      some (1, w_3, w_4, w_5, v1, w_6, w_7, w_8, w_9, w_10, w_11)
def f_X5_find_L33 : Nat → Int32 → Int32 → Int32 → Int32 → Int32 → Int32 → Int32 → Int32 → Int32 → Int64 → Int32 → Int32 → Int32 → Int32 → Int32 → (Nat → Int32) → (Nat → Int32) → (Nat → Int32) → (Nat → Int32) → (Nat → Int32) → (Nat → Int64) → (Nat → Int32) → (Nat → Int32) → Option (Int32 × Int32 × Int64 × Int32 × Int32 × Int32 × Int32 × Int32 × (Nat → Int32) × (Nat → Int64) × (Nat → Int32))
  | 0 => fun _ _ _ _ _ _ _ _ _ _ _ _ _ _ _ _ _ _ _ _ _ _ _ => none
  | n + 1 => f_X5_find_L33b (f_X5_find_L33 n)
def f_X5_find (x1 : Int32) (o_last : Int32) (o_turnsLet : Int32) (o_slowsLet : Int32) (o_fuel : Int32) (o_glide : Int32) (o_count : Int32) (o_weightSum : Int64) (o_toPass : Int32) (o_foundNumber : Int32) (o_foundWeight : Int32) (o_foundTurns : Int32) (o_foundSlowed : Int32) (o_howFar : Nat → Int32) (o_tones : Nat → Int32) (o_only : Nat → Int32) (o_fars : Nat → Int32) (o_cellAt : Nat → Int32) (o_ends : Nat → Int64) (o_seen : Nat → Int32) (o_begun : Nat → Int32) : Option (Int32 × Int32 × Int64 × Int32 × Int32 × Int32 × Int32 × Int32 × (Nat → Int32) × (Nat → Int64) × (Nat → Int32)) :=
  if x1 < 0 then
    some (0, o_count, o_weightSum, o_toPass, o_foundNumber, o_foundWeight, o_foundTurns, o_foundSlowed, o_cellAt, o_ends, o_seen)
  else
    if x1 < o_count then
      if x1 = o_foundNumber then
        some (1, o_count, o_weightSum, o_toPass, o_foundNumber, o_foundWeight, o_foundTurns, o_foundSlowed, o_cellAt, o_ends, o_seen)
      else
        f_X5_find_L33 FU x1 x1 0 o_last o_turnsLet o_slowsLet o_fuel o_glide o_count o_weightSum o_toPass (-1) o_foundWeight o_foundTurns o_foundSlowed o_howFar o_tones o_only o_fars o_cellAt o_ends o_seen o_begun
    else
      some (0, o_count, o_weightSum, o_toPass, o_foundNumber, o_foundWeight, o_foundTurns, o_foundSlowed, o_cellAt, o_ends, o_seen)
abbrev rm_X5_find : Room := { frames := 41, cells := 0, slots := 0, locals := 1032 }
set_option maxRecDepth 100000 in
set_option maxHeartbeats 4000000 in
theorem c_X5_find (l : Launch) (dC : Nat → ClassId) (dI : Nat → Nat → Nat) (cyI cyJ cyO : ClassId) (sz : Nat) (tD tR tL tM : Nat) (h_o a_o_howFar a_o_tones a_o_only a_o_fars a_o_cellAt a_o_ends a_o_seen a_o_begun : Nat) (o_last : Int32) (o_turnsLet : Int32) (o_slowsLet : Int32) (o_fuel : Int32) (o_glide : Int32) (o_count : Int32) (o_weightSum : Int64) (o_toPass : Int32) (o_foundNumber : Int32) (o_foundWeight : Int32) (o_foundTurns : Int32) (o_foundSlowed : Int32) (o_howFar : Nat → Int32) (o_tones : Nat → Int32) (o_only : Nat → Int32) (o_fars : Nat → Int32) (o_cellAt : Nat → Int32) (o_ends : Nat → Int64) (o_seen : Nat → Int32) (o_begun : Nat → Int32) (x1 : Int32) (post : (Int32 × Int32 × Int64 × Int32 × Int32 × Int32 × Int32 × Int32 × (Nat → Int32) × (Nat → Int64) × (Nat → Int32)) → Prop) (hf : okP (f_X5_find x1 o_last o_turnsLet o_slowsLet o_fuel o_glide o_count o_weightSum o_toPass o_foundNumber o_foundWeight o_foundTurns o_foundSlowed o_howFar o_tones o_only o_fars o_cellAt o_ends o_seen o_begun) post) : Ci l (dC, dI) (tyL cyI cyJ cyO) yX5_find wsX5_find rm_X5_find [.ref h_o, .int x1] sz (W_X5_find cyI cyJ cyO h_o a_o_howFar a_o_tones a_o_only a_o_fars a_o_cellAt a_o_ends a_o_seen a_o_begun o_last o_turnsLet o_slowsLet o_fuel o_glide o_count o_weightSum o_toPass o_foundNumber o_foundWeight o_foundTurns o_foundSlowed o_howFar o_tones o_only o_fars o_cellAt o_ends o_seen o_begun) (zX tD tR tL tM) (fun r u => post (r, u)) (fun u => (W_X5_find cyI cyJ cyO h_o a_o_howFar a_o_tones a_o_only a_o_fars a_o_cellAt a_o_ends a_o_seen a_o_begun o_last o_turnsLet o_slowsLet o_fuel o_glide u.1 u.2.1 u.2.2.1 u.2.2.2.1 u.2.2.2.2.1 u.2.2.2.2.2.1 u.2.2.2.2.2.2.1 o_howFar o_tones o_only o_fars u.2.2.2.2.2.2.2.1 u.2.2.2.2.2.2.2.2.1 u.2.2.2.2.2.2.2.2.2 o_begun)) := by
  refine Met.ofW (cc := cX5_find) (maxL := 4) (ret := (some .boolean)) (by decide) rfl ?_
  intro p e s m args below meth c s₁ B hml hv
  obtain ⟨rfl, hsz, hP, hK, hD0, hZ⟩ := hv
  have hx := B.exec
  have hb := B.bytes
  have hr := B.returns
  have hts := atoms_spec (ws := wsX5_find) B.pre
  have hown : s.vm.findClass RX5 = some m.cls := findClass_of_methodNamed B.named
  have hlocks := B.notSynchronized
  subst hsz
  have hD := hD0.self (sz := s.heap.size)
  generalize hAe : va_A (W_X5_find cyI cyJ cyO h_o a_o_howFar a_o_tones a_o_only a_o_fars a_o_cellAt a_o_ends a_o_seen a_o_begun o_last o_turnsLet o_slowsLet o_fuel o_glide o_count o_weightSum o_toPass o_foundNumber o_foundWeight o_foundTurns o_foundSlowed o_howFar o_tones o_only o_fars o_cellAt o_ends o_seen o_begun) s.heap.size = A at hD hZ ⊢
  have hA : ∀ q : Nat, s.heap.size ≤ q → A q := fun q h => by rw [← hAe]; exact Or.inr h
  clear hAe hD0
  have hS : va_S A s.heap s.heap [] := va_S.rf
  have hl := lv_entry ([.ref h_o, .int x1]) (n := 4) (Nat.le_of_ble_eq_true rfl)
  rw [lg_entry_eq]
  generalize (lg_sl ([.ref h_o, .int x1]) ++ List.replicate (4 - (lg_sl ([.ref h_o, .int x1])).length) Slot.unset).toArray = ls at hl ⊢
  have hl : lv_has ls 4 [(0, .ref h_o), (1, .int x1)] := hl
  refine kW (fun Q hQ => ?_)
  have hq0 := hts _ (List.mem_cons_of_mem _ q_132)
  have hi5 : ∀ w ∈ u_ws RX5 TX5 20, w ∈ wsX5_find := fun w h => List.mem_cons_of_mem _ (inX5 w h)
  have hq2 := hts _ (List.mem_cons_of_mem _ q_137)
  have hq3 := hts _ (List.mem_cons_of_mem _ q_124)
  have hq4 := hts _ (List.mem_cons_of_mem _ q_138)
  have hq5 := hts _ (List.mem_cons_of_mem _ q_133)
  have hw := hf
  have w33 : ∀ (n : Nat), ∀ (v1 : Int32) (v2 : Int32) (v3 : Int32) (o_count : Int32) (o_weightSum : Int64) (o_toPass : Int32) (o_foundNumber : Int32) (o_foundWeight : Int32) (o_foundTurns : Int32) (o_foundSlowed : Int32) (o_cellAt : Nat → Int32) (o_ends : Nat → Int64) (o_seen : Nat → Int32) (H : Heap) (locs : List Loc), va_P (dC, dI) vwCl (W_X5_find cyI cyJ cyO h_o a_o_howFar a_o_tones a_o_only a_o_fars a_o_cellAt a_o_ends a_o_seen a_o_begun o_last o_turnsLet o_slowsLet o_fuel o_glide o_count o_weightSum o_toPass o_foundNumber o_foundWeight o_foundTurns o_foundSlowed o_howFar o_tones o_only o_fars o_cellAt o_ends o_seen o_begun) H → va_D A (W_X5_find cyI cyJ cyO h_o a_o_howFar a_o_tones a_o_only a_o_fars a_o_cellAt a_o_ends a_o_seen a_o_begun o_last o_turnsLet o_slowsLet o_fuel o_glide o_count o_weightSum o_toPass o_foundNumber o_foundWeight o_foundTurns o_foundSlowed o_howFar o_tones o_only o_fars o_cellAt o_ends o_seen o_begun) → va_S A s.heap H locs → ∀ (ls : Array Slot), lv_has ls 4 [(0, .ref h_o), (1, .int v1), (2, .int v2), (3, .int v3)] → okP (f_X5_find_L33 n v1 v2 v3 o_last o_turnsLet o_slowsLet o_fuel o_glide o_count o_weightSum o_toPass o_foundNumber o_foundWeight o_foundTurns o_foundSlowed o_howFar o_tones o_only o_fars o_cellAt o_ends o_seen o_begun) post → W p l e (headSpec wsX5_find rm_X5_find).room s m ([.ref h_o, .int x1] : List Value).toArray below meth c H locs 0 0 Q (F0 m 33 ls []) := by
    intro n
    induction n with
    | zero =>
      intro v1 v2 v3 o_count o_weightSum o_toPass o_foundNumber o_foundWeight o_foundTurns o_foundSlowed o_cellAt o_ends o_seen H locs hP hD hS ls hl hw
      exact (ok0 hw).elim
    | succ n33 ih33 =>
      intro v1 v2 v3 o_count o_weightSum o_toPass o_foundNumber o_foundWeight o_foundTurns o_foundSlowed o_cellAt o_ends o_seen H locs hP hD hS ls hl hw
      replace hw : okP (f_X5_find_L33b (f_X5_find_L33 n33) v1 v2 v3 o_last o_turnsLet o_slowsLet o_fuel o_glide o_count o_weightSum o_toPass o_foundNumber o_foundWeight o_foundTurns o_foundSlowed o_howFar o_tones o_only o_fars o_cellAt o_ends o_seen o_begun) post := hw
      unfold f_X5_find_L33b at hw
      refine lv_iload_n hx hb dX5_find_33 rfl (lv_at hl 3 rfl) ?_
      refine lv_bipush (v := 24) hx hb dX5_find_34 (by decide) ?_
      refine lv_icmp_ge (tgt := 96) hx hb dX5_find_36 (by decide) (fun c_1 => ?_) (fun c_1 => ?_)
      · replace hw := okT hw c_1
        clear c_1
        refine lv_iconst (v := 0) hx hb dX5_find_96 (by decide) ?_
        rw [hQ]
        exact W.zret (v := 0) hx hb hr (by decide) (fun t ht hW => ⟨⟨0, (o_count, o_weightSum, o_toPass, o_foundNumber, o_foundWeight, o_foundTurns, o_foundSlowed, o_cellAt, o_ends, o_seen), rfl, okS hw, by rw [ht]; exact hP, va_K.moved hW.alike hK, hD⟩, hS.F ht⟩) hS.2.2 dX5_find_97
      · replace hw := okF hw c_1
        clear c_1
        refine lv_iload_n hx hb dX5_find_39 rfl (lv_at hl 2 rfl) ?_
        refine lv_aload_n hx hb dX5_find_40 rfl (lv_at hl 0 rfl) ?_
        refine va_get (D := (dC, dI)) (ci := 5) (v := .ref a_o_begun) (C := RX5) (T := TX5) (N := 20) hx hb hts hi5 hown hK hP 0 rfl rfl 12 (by decide) hq0 (fun _ h9 => h9) rfl dX5_find_41 ?_
        refine lv_iload_n hx hb dX5_find_44 rfl (lv_at hl 3 rfl) ?_
        obtain ⟨h_2, hw⟩ := okC hw
        refine va_iald (i := v3) hx hb hK hP 8 0 rfl rfl h_2 dX5_find_45 ?_
        refine lv_icmp_ge (tgt := 81) hx hb dX5_find_46 (by decide) (fun c_3 => ?_) (fun c_3 => ?_)
        · replace hw := okT hw c_3
          clear c_3
          refine lv_iload_n hx hb dX5_find_81 rfl (lv_at hl 2 rfl) ?_
          refine lv_aload_n hx hb dX5_find_82 rfl (lv_at hl 0 rfl) ?_
          refine va_get (D := (dC, dI)) (ci := 5) (v := .ref a_o_begun) (C := RX5) (T := TX5) (N := 20) hx hb hts hi5 hown hK hP 0 rfl rfl 12 (by decide) hq0 (fun _ h9 => h9) rfl dX5_find_83 ?_
          refine lv_iload_n hx hb dX5_find_86 rfl (lv_at hl 3 rfl) ?_
          obtain ⟨h_4, hw⟩ := okC hw
          refine va_iald (i := v3) hx hb hK hP 8 0 rfl rfl h_4 dX5_find_87 ?_
          refine lv_isub hx hb dX5_find_88 ?_
          refine lv_topi (fun x_5 ex_5 => ?_)
          replace hw := okN ex_5 hw
          clear ex_5
          refine lv_istore_n (lv' := [(2, .int x_5), (0, .ref h_o), (1, .int v1), (3, .int v3)]) hx hb dX5_find_89 rfl hl (by decide) rfl (fun ls hl => ?_)
          obtain ⟨x_6, ex_6⟩ : ∃ y : Int32, y = v3 + 1 := ⟨_, rfl⟩
          replace hw := okN ex_6 hw
          refine lv_iinc (v := x_6) (lv' := [(3, .int x_6), (2, .int x_5), (0, .ref h_o), (1, .int v1)]) hx hb dX5_find_90 hl (k := 3) rfl (by rw [ex_6]; rfl) (by decide) rfl (fun ls hl => ?_)
          clear ex_6
          refine lv_goto (tgt := 33) hx hb dX5_find_93 (by decide) ?_
          exact ih33 v1 x_5 x_6 o_count o_weightSum o_toPass o_foundNumber o_foundWeight o_foundTurns o_foundSlowed o_cellAt o_ends o_seen _ _ hP hD hS _ (lv_sub hl [2, 3, 1, 0] rfl) hw
        · replace hw := okF hw c_3
          clear c_3
          refine lv_aload_n hx hb dX5_find_49 rfl (lv_at hl 0 rfl) ?_
          refine lv_iload_n hx hb dX5_find_50 rfl (lv_at hl 2 rfl) ?_
          refine va_put (D := (dC, dI)) (ci := 5) (v := .int v2) (ty := .int) (C := RX5) (T := TX5) (N := 20) hx hb hts hi5 tyX5 tyX5_ok nmX5 hown hK hP hD hS 0 rfl rfl 15 (by decide) hq2 (fun _ h9 => h9) rfl (by decide +kernel) rfl rfl (Nat.le_of_ble_eq_true rfl) dX5_find_51 (fun H locs hP hD hS => ?_)
          have hP : va_P (dC, dI) vwCl (W_X5_find cyI cyJ cyO h_o a_o_howFar a_o_tones a_o_only a_o_fars a_o_cellAt a_o_ends a_o_seen a_o_begun o_last o_turnsLet o_slowsLet o_fuel o_glide o_count o_weightSum v2 o_foundNumber o_foundWeight o_foundTurns o_foundSlowed o_howFar o_tones o_only o_fars o_cellAt o_ends o_seen o_begun) H := hP
          have hD : va_D A (W_X5_find cyI cyJ cyO h_o a_o_howFar a_o_tones a_o_only a_o_fars a_o_cellAt a_o_ends a_o_seen a_o_begun o_last o_turnsLet o_slowsLet o_fuel o_glide o_count o_weightSum v2 o_foundNumber o_foundWeight o_foundTurns o_foundSlowed o_howFar o_tones o_only o_fars o_cellAt o_ends o_seen o_begun) := hD
          refine lv_aload_n hx hb dX5_find_54 rfl (lv_at hl 0 rfl) ?_
          refine lv_iconst (v := 0) hx hb dX5_find_55 (by decide) ?_
          refine lv_iload_n hx hb dX5_find_56 rfl (lv_at hl 3 rfl) ?_
          refine lv_iconst (v := 3) hx hb dX5_find_57 (by decide) ?_
          refine lv_idiv hx hb dX5_find_58 (by decide) ?_
          refine lv_iload_n hx hb dX5_find_59 rfl (lv_at hl 3 rfl) ?_
          refine lv_iconst (v := 3) hx hb dX5_find_60 (by decide) ?_
          refine lv_irem hx hb dX5_find_61 (by decide) ?_
          refine lv_iconst (v := 1) hx hb dX5_find_62 (by decide) ?_
          refine lv_iadd hx hb dX5_find_63 ?_
          refine lv_iconst (v := 0) hx hb dX5_find_64 (by decide) ?_
          refine lv_iconst (v := 0) hx hb dX5_find_65 (by decide) ?_
          refine lv_iconst (v := 1) hx hb dX5_find_66 (by decide) ?_
          refine lv_aload_n hx hb dX5_find_67 rfl (lv_at hl 0 rfl) ?_
          refine va_get (D := (dC, dI)) (ci := 5) (v := .int o_fuel) (C := RX5) (T := TX5) (N := 20) hx hb hts hi5 hown hK hP 0 rfl rfl 7 (by decide) hq3 (fun _ h9 => h9) rfl dX5_find_68 ?_
          have hPc := hP.sub (ws' := (W_X5_fly cyI cyJ cyO h_o a_o_howFar a_o_tones a_o_only a_o_fars a_o_cellAt a_o_ends a_o_seen a_o_begun o_last o_turnsLet o_slowsLet o_fuel o_glide o_count o_weightSum v2 o_foundNumber o_foundWeight o_foundTurns o_foundSlowed o_howFar o_tones o_only o_fars o_cellAt o_ends o_seen)) [0, 1, 2, 3, 4, 5, 6, 7] rfl
          have hDc := hD.sub (ws' := (W_X5_fly cyI cyJ cyO h_o a_o_howFar a_o_tones a_o_only a_o_fars a_o_cellAt a_o_ends a_o_seen a_o_begun o_last o_turnsLet o_slowsLet o_fuel o_glide o_count o_weightSum v2 o_foundNumber o_foundWeight o_foundTurns o_foundSlowed o_howFar o_tones o_only o_fars o_cellAt o_ends o_seen)) [0, 1, 2, 3, 4, 5, 6, 7] (by decide +kernel) rfl
          have hFc := va_free (wc := (W_X5_fly cyI cyJ cyO h_o a_o_howFar a_o_tones a_o_only a_o_fars a_o_cellAt a_o_ends a_o_seen a_o_begun o_last o_turnsLet o_slowsLet o_fuel o_glide o_count o_weightSum v2 o_foundNumber o_foundWeight o_foundTurns o_foundSlowed o_howFar o_tones o_only o_fars o_cellAt o_ends o_seen)) hD hS hA [0, 1, 2, 3, 4, 5, 6, 7] rfl
          refine kc_v (wr := [(a_o_begun, .inl (cyI, 24, .inl o_begun))]) (va_runV (As := [.int 0, .int (v3 / 3), .int ((v3 - v3 / 3 * 3) + 1), .int 0, .int 0, .int 1, .int o_fuel]) (rest := []) ⟨hx, hb, hml, hown, hts⟩ (c_X5_flyA l dC dI cyI cyJ cyO 8 H.size tD tR tL tM h_o a_o_howFar a_o_tones a_o_only a_o_fars a_o_cellAt a_o_ends a_o_seen a_o_begun o_last o_turnsLet o_slowsLet o_fuel o_glide o_count o_weightSum v2 o_foundNumber o_foundWeight o_foundTurns o_foundSlowed o_howFar o_tones o_only o_fars o_cellAt o_ends o_seen 0 (v3 / 3) ((v3 - v3 / 3 * 3) + 1) 0 0 1 o_fuel _ (okb9 hw)) (cwV 7 hts (gdV (fun w h => List.mem_cons_of_mem _ h) q_412 q_414 qs_10 q_3 q_415) rfl rfl rfl (by decide +kernel) ⟨Nat.le_of_ble_eq_true rfl, Nat.le_of_ble_eq_true rfl⟩) ⟨(kpre zX_ok hK hPc hDc hZ hS hFc).1, va_recv hK hP (ci := 5) (q0 := 0) rfl rfl, (kpre zX_ok hK hPc hDc hZ hS hFc).2⟩ rfl rfl hl.1 rfl (lv_room (Nat.le_of_ble_eq_true rfl)) dX5_find_71 ⟨Nat.le_of_ble_eq_true rfl, Nat.le_of_ble_eq_true rfl⟩) hP hD hS hFc [0, 1, 2, 3, 4, 5, 6, 7] [8] rfl rfl (by decide +kernel) (by decide +kernel) (fun u H locs hw hP hD hS => ?_)
          obtain ⟨w_7, w_8, w_9, w_10, w_11, w_12, w_13, w_14, w_15⟩ := u
          try dsimp only at hw
          have hP : va_P (dC, dI) vwCl (W_X5_find cyI cyJ cyO h_o a_o_howFar a_o_tones a_o_only a_o_fars a_o_cellAt a_o_ends a_o_seen a_o_begun o_last o_turnsLet o_slowsLet o_fuel o_glide w_7 w_8 w_9 o_foundNumber w_10 w_11 w_12 o_howFar o_tones o_only o_fars w_13 w_14 w_15 o_begun) H := hP.sub [1, 2, 3, 4, 5, 6, 7, 8, 0] rfl
          have hD : va_D A (W_X5_find cyI cyJ cyO h_o a_o_howFar a_o_tones a_o_only a_o_fars a_o_cellAt a_o_ends a_o_seen a_o_begun o_last o_turnsLet o_slowsLet o_fuel o_glide w_7 w_8 w_9 o_foundNumber w_10 w_11 w_12 o_howFar o_tones o_only o_fars w_13 w_14 w_15 o_begun) := hD.sub [1, 2, 3, 4, 5, 6, 7, 8, 0] (by decide +kernel) rfl
          clear hPc hDc hFc
          refine lv_aload_n hx hb dX5_find_74 rfl (lv_at hl 0 rfl) ?_
          refine lv_iload_n hx hb dX5_find_75 rfl (lv_at hl 1 rfl) ?_
          refine va_put (D := (dC, dI)) (ci := 5) (v := .int v1) (ty := .int) (C := RX5) (T := TX5) (N := 20) hx hb hts hi5 tyX5 tyX5_ok nmX5 hown hK hP hD hS 0 rfl rfl 16 (by decide) hq4 (fun _ h9 => h9) rfl (by decide +kernel) rfl rfl (Nat.le_of_ble_eq_true rfl) dX5_find_76 (fun H locs hP hD hS => ?_)
          have hP : va_P (dC, dI) vwCl (W_X5_find cyI cyJ cyO h_o a_o_howFar a_o_tones a_o_only a_o_fars a_o_cellAt a_o_ends a_o_seen a_o_begun o_last o_turnsLet o_slowsLet o_fuel o_glide w_7 w_8 w_9 v1 w_10 w_11 w_12 o_howFar o_tones o_only o_fars w_13 w_14 w_15 o_begun) H := hP
          have hD : va_D A (W_X5_find cyI cyJ cyO h_o a_o_howFar a_o_tones a_o_only a_o_fars a_o_cellAt a_o_ends a_o_seen a_o_begun o_last o_turnsLet o_slowsLet o_fuel o_glide w_7 w_8 w_9 v1 w_10 w_11 w_12 o_howFar o_tones o_only o_fars w_13 w_14 w_15 o_begun) := hD
          refine lv_iconst (v := 1) hx hb dX5_find_79 (by decide) ?_
          rw [hQ]
          exact W.zret (v := 1) hx hb hr (by decide) (fun t ht hW => ⟨⟨1, (w_7, w_8, w_9, v1, w_10, w_11, w_12, w_13, w_14, w_15), rfl, okS hw, by rw [ht]; exact hP, va_K.moved hW.alike hK, hD⟩, hS.F ht⟩) hS.2.2 dX5_find_80
  unfold f_X5_find at hw
  have hP : va_P (dC, dI) vwCl (W_X5_find cyI cyJ cyO h_o a_o_howFar a_o_tones a_o_only a_o_fars a_o_cellAt a_o_ends a_o_seen a_o_begun o_last o_turnsLet o_slowsLet o_fuel o_glide o_count o_weightSum o_toPass o_foundNumber o_foundWeight o_foundTurns o_foundSlowed o_howFar o_tones o_only o_fars o_cellAt o_ends o_seen o_begun) s.heap := hP
  obtain ⟨H, hH⟩ : ∃ H, H = s.heap := ⟨_, rfl⟩
  obtain ⟨locs, hlo⟩ : ∃ x : List Loc, x = [] := ⟨_, rfl⟩
  have hP : va_P (dC, dI) vwCl (W_X5_find cyI cyJ cyO h_o a_o_howFar a_o_tones a_o_only a_o_fars a_o_cellAt a_o_ends a_o_seen a_o_begun o_last o_turnsLet o_slowsLet o_fuel o_glide o_count o_weightSum o_toPass o_foundNumber o_foundWeight o_foundTurns o_foundSlowed o_howFar o_tones o_only o_fars o_cellAt o_ends o_seen o_begun) H := by rw [hH]; exact hP
  have hS : va_S A s.heap H locs := by rw [hH, hlo]; exact hS
  refine kH hH hlo ?_
  clear hH hlo
  refine lv_iload_n hx hb dX5_find_0 rfl (lv_at hl 1 rfl) ?_
  refine lv_if_lt (tgt := 12) hx hb dX5_find_1 (by decide) (fun c_16 => ?_) (fun c_16 => ?_)
  · replace hw := okT hw c_16
    clear c_16
    refine lv_iconst (v := 0) hx hb dX5_find_12 (by decide) ?_
    rw [hQ]
    exact W.zret (v := 0) hx hb hr (by decide) (fun t ht hW => ⟨⟨0, (o_count, o_weightSum, o_toPass, o_foundNumber, o_foundWeight, o_foundTurns, o_foundSlowed, o_cellAt, o_ends, o_seen), rfl, okS hw, by rw [ht]; exact hP, va_K.moved hW.alike hK, hD⟩, hS.F ht⟩) hS.2.2 dX5_find_13
  · replace hw := okF hw c_16
    clear c_16
    refine lv_iload_n hx hb dX5_find_4 rfl (lv_at hl 1 rfl) ?_
    refine lv_aload_n hx hb dX5_find_5 rfl (lv_at hl 0 rfl) ?_
    refine va_get (D := (dC, dI)) (ci := 5) (v := .int o_count) (C := RX5) (T := TX5) (N := 20) hx hb hts hi5 hown hK hP 0 rfl rfl 13 (by decide) hq5 (fun _ h9 => h9) rfl dX5_find_6 ?_
    refine lv_icmp_lt (tgt := 14) hx hb dX5_find_9 (by decide) (fun c_17 => ?_) (fun c_17 => ?_)
    · replace hw := okT hw c_17
      clear c_17
      refine lv_iload_n hx hb dX5_find_14 rfl (lv_at hl 1 rfl) ?_
      refine lv_aload_n hx hb dX5_find_15 rfl (lv_at hl 0 rfl) ?_
      refine va_get (D := (dC, dI)) (ci := 5) (v := .int o_foundNumber) (C := RX5) (T := TX5) (N := 20) hx hb hts hi5 hown hK hP 0 rfl rfl 16 (by decide) hq4 (fun _ h9 => h9) rfl dX5_find_16 ?_
      refine lv_icmp_ne (tgt := 24) hx hb dX5_find_19 (by decide) (fun c_18 => ?_) (fun c_18 => ?_)
      · replace hw := okF hw c_18
        clear c_18
        refine lv_iload_n hx hb dX5_find_24 rfl (lv_at hl 1 rfl) ?_
        refine lv_istore_n (lv' := [(2, .int x1), (0, .ref h_o), (1, .int x1)]) hx hb dX5_find_25 rfl hl (by decide) rfl (fun ls hl => ?_)
        refine lv_aload_n hx hb dX5_find_26 rfl (lv_at hl 1 rfl) ?_
        refine lv_iconst (v := (-1)) hx hb dX5_find_27 (by decide) ?_
        refine va_put (D := (dC, dI)) (ci := 5) (v := .int (-1)) (ty := .int) (C := RX5) (T := TX5) (N := 20) hx hb hts hi5 tyX5 tyX5_ok nmX5 hown hK hP hD hS 0 rfl rfl 16 (by decide) hq4 (fun _ h9 => h9) rfl (by decide +kernel) rfl rfl (Nat.le_of_ble_eq_true rfl) dX5_find_28 (fun H locs hP hD hS => ?_)
        have hP : va_P (dC, dI) vwCl (W_X5_find cyI cyJ cyO h_o a_o_howFar a_o_tones a_o_only a_o_fars a_o_cellAt a_o_ends a_o_seen a_o_begun o_last o_turnsLet o_slowsLet o_fuel o_glide o_count o_weightSum o_toPass (-1) o_foundWeight o_foundTurns o_foundSlowed o_howFar o_tones o_only o_fars o_cellAt o_ends o_seen o_begun) H := hP
        have hD : va_D A (W_X5_find cyI cyJ cyO h_o a_o_howFar a_o_tones a_o_only a_o_fars a_o_cellAt a_o_ends a_o_seen a_o_begun o_last o_turnsLet o_slowsLet o_fuel o_glide o_count o_weightSum o_toPass (-1) o_foundWeight o_foundTurns o_foundSlowed o_howFar o_tones o_only o_fars o_cellAt o_ends o_seen o_begun) := hD
        refine lv_iconst (v := 0) hx hb dX5_find_31 (by decide) ?_
        refine lv_istore_n (lv' := [(3, .int 0), (2, .int x1), (0, .ref h_o), (1, .int x1)]) hx hb dX5_find_32 rfl hl (by decide) rfl (fun ls hl => ?_)
        exact w33 FU x1 x1 0 o_count o_weightSum o_toPass (-1) o_foundWeight o_foundTurns o_foundSlowed o_cellAt o_ends o_seen _ _ hP hD hS _ (lv_sub hl [2, 3, 1, 0] rfl) hw
      · replace hw := okT hw c_18
        clear c_18
        refine lv_iconst (v := 1) hx hb dX5_find_22 (by decide) ?_
        rw [hQ]
        exact W.zret (v := 1) hx hb hr (by decide) (fun t ht hW => ⟨⟨1, (o_count, o_weightSum, o_toPass, o_foundNumber, o_foundWeight, o_foundTurns, o_foundSlowed, o_cellAt, o_ends, o_seen), rfl, okS hw, by rw [ht]; exact hP, va_K.moved hW.alike hK, hD⟩, hS.F ht⟩) hS.2.2 dX5_find_23
    · replace hw := okF hw c_17
      clear c_17
      refine lv_iconst (v := 0) hx hb dX5_find_12 (by decide) ?_
      rw [hQ]
      exact W.zret (v := 0) hx hb hr (by decide) (fun t ht hW => ⟨⟨0, (o_count, o_weightSum, o_toPass, o_foundNumber, o_foundWeight, o_foundTurns, o_foundSlowed, o_cellAt, o_ends, o_seen), rfl, okS hw, by rw [ht]; exact hP, va_K.moved hW.alike hK, hD⟩, hS.F ht⟩) hS.2.2 dX5_find_13
