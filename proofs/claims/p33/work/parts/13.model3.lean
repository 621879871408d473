/-! ===== X7_count ===== -/
theorem dX7_count_0 : decode cX7_count 0 = .ok (.iload_n 1, 1) := by decide +kernel
theorem dX7_count_1 : decode cX7_count 1 = .ok (.i2l, 1) := by decide +kernel
theorem dX7_count_2 : decode cX7_count 2 = .ok (.lconst 0, 1) := by decide +kernel
theorem dX7_count_3 : decode cX7_count 3 = .ok (.ldc2_w 243, 3) := by decide +kernel
theorem dX7_count_6 : decode cX7_count 6 = .ok (.invokestatic 100, 3) := by decide +kernel
theorem dX7_count_9 : decode cX7_count 9 = .ok (.ifCond .ne 5, 3) := by decide +kernel
theorem dX7_count_12 : decode cX7_count 12 = .ok (.iconst (-1), 1) := by decide +kernel
theorem dX7_count_13 : decode cX7_count 13 = .ok (.ireturn, 1) := by decide +kernel
theorem dX7_count_14 : decode cX7_count 14 = .ok (.iconst 0, 1) := by decide +kernel
theorem dX7_count_15 : decode cX7_count 15 = .ok (.istore_n 2, 1) := by decide +kernel
theorem dX7_count_16 : decode cX7_count 16 = .ok (.iconst 1, 1) := by decide +kernel
theorem dX7_count_17 : decode cX7_count 17 = .ok (.istore_n 3, 1) := by decide +kernel
theorem dX7_count_18 : decode cX7_count 18 = .ok (.iload_n 3, 1) := by decide +kernel
theorem dX7_count_19 : decode cX7_count 19 = .ok (.bipush 7, 2) := by decide +kernel
theorem dX7_count_21 : decode cX7_count 21 = .ok (.if_icmp .ge 49, 3) := by decide +kernel
theorem dX7_count_24 : decode cX7_count 24 = .ok (.iload_n 1, 1) := by decide +kernel
theorem dX7_count_25 : decode cX7_count 25 = .ok (.iconst 2, 1) := by decide +kernel
theorem dX7_count_26 : decode cX7_count 26 = .ok (.if_icmp .ge 44, 3) := by decide +kernel
theorem dX7_count_29 : decode cX7_count 29 = .ok (.iload_n 2, 1) := by decide +kernel
theorem dX7_count_30 : decode cX7_count 30 = .ok (.iload_n 1, 1) := by decide +kernel
theorem dX7_count_31 : decode cX7_count 31 = .ok (.ifCond .ne 12, 3) := by decide +kernel
theorem dX7_count_34 : decode cX7_count 34 = .ok (.aload_n 0, 1) := by decide +kernel
theorem dX7_count_35 : decode cX7_count 35 = .ok (.getfield 13, 3) := by decide +kernel
theorem dX7_count_38 : decode cX7_count 38 = .ok (.iload_n 3, 1) := by decide +kernel
theorem dX7_count_39 : decode cX7_count 39 = .ok (.iaload, 1) := by decide +kernel
theorem dX7_count_40 : decode cX7_count 40 = .ok (.ifCond .ge 17, 3) := by decide +kernel
theorem dX7_count_43 : decode cX7_count 43 = .ok (.iload_n 1, 1) := by decide +kernel
theorem dX7_count_44 : decode cX7_count 44 = .ok (.iconst 1, 1) := by decide +kernel
theorem dX7_count_45 : decode cX7_count 45 = .ok (.if_icmp .ne 16, 3) := by decide +kernel
theorem dX7_count_48 : decode cX7_count 48 = .ok (.aload_n 0, 1) := by decide +kernel
theorem dX7_count_49 : decode cX7_count 49 = .ok (.getfield 16, 3) := by decide +kernel
theorem dX7_count_52 : decode cX7_count 52 = .ok (.iload_n 3, 1) := by decide +kernel
theorem dX7_count_53 : decode cX7_count 53 = .ok (.iaload, 1) := by decide +kernel
theorem dX7_count_54 : decode cX7_count 54 = .ok (.ifCond .le 7, 3) := by decide +kernel
theorem dX7_count_57 : decode cX7_count 57 = .ok (.iconst 1, 1) := by decide +kernel
theorem dX7_count_58 : decode cX7_count 58 = .ok (.goto 4, 3) := by decide +kernel
theorem dX7_count_61 : decode cX7_count 61 = .ok (.iconst 0, 1) := by decide +kernel
theorem dX7_count_62 : decode cX7_count 62 = .ok (.iadd, 1) := by decide +kernel
theorem dX7_count_63 : decode cX7_count 63 = .ok (.istore_n 2, 1) := by decide +kernel
theorem dX7_count_64 : decode cX7_count 64 = .ok (.iinc 3 1, 3) := by decide +kernel
theorem dX7_count_67 : decode cX7_count 67 = .ok (.goto (-49), 3) := by decide +kernel
theorem dX7_count_70 : decode cX7_count 70 = .ok (.iload_n 1, 1) := by decide +kernel
theorem dX7_count_71 : decode cX7_count 71 = .ok (.iconst 4, 1) := by decide +kernel
theorem dX7_count_72 : decode cX7_count 72 = .ok (.if_icmp .ne 40, 3) := by decide +kernel
theorem dX7_count_75 : decode cX7_count 75 = .ok (.aload_n 0, 1) := by decide +kernel
theorem dX7_count_76 : decode cX7_count 76 = .ok (.invokevirtual 234, 3) := by decide +kernel
theorem dX7_count_79 : decode cX7_count 79 = .ok (.iconst 0, 1) := by decide +kernel
theorem dX7_count_80 : decode cX7_count 80 = .ok (.istore_n 3, 1) := by decide +kernel
theorem dX7_count_81 : decode cX7_count 81 = .ok (.iload_n 3, 1) := by decide +kernel
theorem dX7_count_82 : decode cX7_count 82 = .ok (.bipush 100, 2) := by decide +kernel
theorem dX7_count_84 : decode cX7_count 84 = .ok (.if_icmp .ge 28, 3) := by decide +kernel
theorem dX7_count_87 : decode cX7_count 87 = .ok (.iload_n 2, 1) := by decide +kernel
theorem dX7_count_88 : decode cX7_count 88 = .ok (.aload_n 0, 1) := by decide +kernel
theorem dX7_count_89 : decode cX7_count 89 = .ok (.getfield 73, 3) := by decide +kernel
theorem dX7_count_92 : decode cX7_count 92 = .ok (.iload_n 3, 1) := by decide +kernel
theorem dX7_count_93 : decode cX7_count 93 = .ok (.laload, 1) := by decide +kernel
theorem dX7_count_94 : decode cX7_count 94 = .ok (.lconst 0, 1) := by decide +kernel
theorem dX7_count_95 : decode cX7_count 95 = .ok (.lcmp, 1) := by decide +kernel
theorem dX7_count_96 : decode cX7_count 96 = .ok (.ifCond .le 7, 3) := by decide +kernel
theorem dX7_count_99 : decode cX7_count 99 = .ok (.iconst 1, 1) := by decide +kernel
theorem dX7_count_100 : decode cX7_count 100 = .ok (.goto 4, 3) := by decide +kernel
theorem dX7_count_103 : decode cX7_count 103 = .ok (.iconst 0, 1) := by decide +kernel
theorem dX7_count_104 : decode cX7_count 104 = .ok (.iadd, 1) := by decide +kernel
theorem dX7_count_105 : decode cX7_count 105 = .ok (.istore_n 2, 1) := by decide +kernel
theorem dX7_count_106 : decode cX7_count 106 = .ok (.iinc 3 1, 3) := by decide +kernel
theorem dX7_count_109 : decode cX7_count 109 = .ok (.goto (-28), 3) := by decide +kernel
theorem dX7_count_112 : decode cX7_count 112 = .ok (.iload_n 1, 1) := by decide +kernel
theorem dX7_count_113 : decode cX7_count 113 = .ok (.iconst 2, 1) := by decide +kernel
theorem dX7_count_114 : decode cX7_count 114 = .ok (.if_icmp .ne 10, 3) := by decide +kernel
theorem dX7_count_117 : decode cX7_count 117 = .ok (.aload_n 0, 1) := by decide +kernel
theorem dX7_count_118 : decode cX7_count 118 = .ok (.getfield 206, 3) := by decide +kernel
theorem dX7_count_121 : decode cX7_count 121 = .ok (.goto 16, 3) := by decide +kernel
theorem dX7_count_124 : decode cX7_count 124 = .ok (.iload_n 1, 1) := by decide +kernel
theorem dX7_count_125 : decode cX7_count 125 = .ok (.iconst 3, 1) := by decide +kernel
theorem dX7_count_126 : decode cX7_count 126 = .ok (.if_icmp .ne 10, 3) := by decide +kernel
theorem dX7_count_129 : decode cX7_count 129 = .ok (.aload_n 0, 1) := by decide +kernel
theorem dX7_count_130 : decode cX7_count 130 = .ok (.getfield 218, 3) := by decide +kernel
theorem dX7_count_133 : decode cX7_count 133 = .ok (.goto 4, 3) := by decide +kernel
theorem dX7_count_136 : decode cX7_count 136 = .ok (.iload_n 2, 1) := by decide +kernel
theorem dX7_count_137 : decode cX7_count 137 = .ok (.ireturn, 1) := by decide +kernel
abbrev W_X7_count (cyI cyJ cyO : ClassId) (h_o a_o_sets a_o_ringFar a_o_ringTone a_o_currents a_o_warmths a_o_depths a_o_tape a_o_readFar a_o_readTone a_o_readSea a_o_code a_o_cellAt a_o_courseAt a_o_paceAt a_o_turnsAt a_o_slowAt a_o_fuelAt a_o_ringAt a_o_pieceParts a_o_dragCell a_o_dragBy a_o_sums a_o_shares a_o_keptFar a_o_image a_o_lanes a_o_sizes a_o_items a_o_movedItems : Nat) (o_taped : Int32) (o_at : Int32) (o_wrong : Int32) (o_level : Int32) (o_noRings : Int32) (o_noTones : Int32) (o_noFuel : Int32) (o_pieces : Int32) (o_drags : Int32) (o_all : Int64) (o_noPieces : Int32) (o_noDrags : Int32) (o_kept : Int32) (o_sets : Nat → Int32) (o_ringFar : Nat → Int32) (o_ringTone : Nat → Int32) (o_currents : Nat → Int32) (o_warmths : Nat → Int32) (o_code : Nat → Int32) (o_cellAt : Nat → Int32) (o_courseAt : Nat → Int32) (o_paceAt : Nat → Int32) (o_turnsAt : Nat → Int32) (o_slowAt : Nat → Int32) (o_fuelAt : Nat → Int32) (o_ringAt : Nat → Int32) (o_pieceParts : Nat → Int32) (o_dragCell : Nat → Int32) (o_dragBy : Nat → Int32) (o_sums : Nat → Int64) : va_W := [(h_o, .inr (7, [.ref a_o_sets, .ref a_o_ringFar, .ref a_o_ringTone, .ref a_o_currents, .ref a_o_warmths, .ref a_o_depths, .ref a_o_tape, .int o_taped, .int o_at, .int o_wrong, .ref a_o_readFar, .ref a_o_readTone, .ref a_o_readSea, .ref a_o_code, .ref a_o_cellAt, .ref a_o_courseAt, .ref a_o_paceAt, .ref a_o_turnsAt, .ref a_o_slowAt, .ref a_o_fuelAt, .ref a_o_ringAt, .int o_level, .int o_noRings, .int o_noTones, .int o_noFuel, .int o_pieces, .ref a_o_pieceParts, .int o_drags, .ref a_o_dragCell, .ref a_o_dragBy, .ref a_o_sums, .long o_all, .int o_noPieces, .int o_noDrags, .ref a_o_shares, .ref a_o_keptFar, .ref a_o_image, .int o_kept, .ref a_o_lanes, .ref a_o_sizes, .ref a_o_items, .ref a_o_movedItems])), (a_o_sets, .inl (cyI, 8, .inl o_sets)), (a_o_ringFar, .inl (cyI, 7, .inl o_ringFar)), (a_o_ringTone, .inl (cyI, 7, .inl o_ringTone)), (a_o_currents, .inl (cyI, 200, .inl o_currents)), (a_o_warmths, .inl (cyI, 200, .inl o_warmths)), (a_o_code, .inl (cyI, 7, .inl o_code)), (a_o_cellAt, .inl (cyI, 7, .inl o_cellAt)), (a_o_courseAt, .inl (cyI, 7, .inl o_courseAt)), (a_o_paceAt, .inl (cyI, 7, .inl o_paceAt)), (a_o_turnsAt, .inl (cyI, 7, .inl o_turnsAt)), (a_o_slowAt, .inl (cyI, 7, .inl o_slowAt)), (a_o_fuelAt, .inl (cyI, 7, .inl o_fuelAt)), (a_o_ringAt, .inl (cyI, 7, .inl o_ringAt)), (a_o_pieceParts, .inl (cyI, 20, .inl o_pieceParts)), (a_o_dragCell, .inl (cyI, 6, .inl o_dragCell)), (a_o_dragBy, .inl (cyI, 6, .inl o_dragBy)), (a_o_sums, .inl (cyJ, 100, .inr (.inl o_sums)))]
def f_X7_count_B112 (v1 : Int32) (v2 : Int32) (o_level : Int32) (o_noRings : Int32) (o_noTones : Int32) (o_noFuel : Int32) (o_pieces : Int32) (o_drags : Int32) (o_all : Int64) (o_noPieces : Int32) (o_noDrags : Int32) (o_sets : Nat → Int32) (o_ringFar : Nat → Int32) (o_ringTone : Nat → Int32) (o_currents : Nat → Int32) (o_warmths : Nat → Int32) (o_code : Nat → Int32) (o_cellAt : Nat → Int32) (o_courseAt : Nat → Int32) (o_paceAt : Nat → Int32) (o_turnsAt : Nat → Int32) (o_slowAt : Nat → Int32) (o_fuelAt : Nat → Int32) (o_ringAt : Nat → Int32) (o_pieceParts : Nat → Int32) (o_dragCell : Nat → Int32) (o_dragBy : Nat → Int32) (o_sums : Nat → Int64) : Option (Int32 × Int32 × Int32 × Int32 × Int32 × Int64 × Int32 × Int32 × (Nat → Int32) × (Nat → Int32) × (Nat → Int32) × (Nat → Int32) × (Nat → Int32) × (Nat → Int32) × (Nat → Int32) × (Nat → Int32) × (Nat → Int64)) :=
  if v1 = 2 then
    some (o_pieces, o_level, o_noRings, o_noTones, o_noFuel, o_all, o_noPieces, o_noDrags, o_code, o_cellAt, o_courseAt, o_paceAt, o_turnsAt, o_slowAt, o_fuelAt, o_ringAt, o_sums)
  else
    if v1 = 3 then
      some (o_drags, o_level, o_noRings, o_noTones, o_noFuel, o_all, o_noPieces, o_noDrags, o_code, o_cellAt, o_courseAt, o_paceAt, o_turnsAt, o_slowAt, o_fuelAt, o_ringAt, o_sums)
    else
      some (v2, o_level, o_noRings, o_noTones, o_noFuel, o_all, o_noPieces, o_noDrags, o_code, o_cellAt, o_courseAt, o_paceAt, o_turnsAt, o_slowAt, o_fuelAt, o_ringAt, o_sums)
def f_X7_count_B104 (k81 : Int32 → Int32 → Int32 → Int32 → Int32 → Int32 → Int32 → Int32 → Int32 → Int64 → Int32 → Int32 → (Nat → Int32) → (Nat → Int32) → (Nat → Int32) → (Nat → Int32) → (Nat → Int32) → (Nat → Int32) → (Nat → Int32) → (Nat → Int32) → (Nat → Int32) → (Nat → Int32) → (Nat → Int32) → (Nat → Int32) → (Nat → Int32) → (Nat → Int32) → (Nat → Int32) → (Nat → Int32) → (Nat → Int64) → Option (Int32 × Int32 × Int32 × Int32 × Int32 × Int64 × Int32 × Int32 × (Nat → Int32) × (Nat → Int32) × (Nat → Int32) × (Nat → Int32) × (Nat → Int32) × (Nat → Int32) × (Nat → Int32) × (Nat → Int32) × (Nat → Int64))) (v1 : Int32) (v3 : Int32) (y0 : Int32) (y1 : Int32) (o_level : Int32) (o_noRings : Int32) (o_noTones : Int32) (o_noFuel : Int32) (o_pieces : Int32) (o_drags : Int32) (o_all : Int64) (o_noPieces : Int32) (o_noDrags : Int32) (o_sets : Nat → Int32) (o_ringFar : Nat → Int32) (o_ringTone : Nat → Int32) (o_currents : Nat → Int32) (o_warmths : Nat → Int32) (o_code : Nat → Int32) (o_cellAt : Nat → Int32) (o_courseAt : Nat → Int32) (o_paceAt : Nat → Int32) (o_turnsAt : Nat → Int32) (o_slowAt : Nat → Int32) (o_fuelAt : Nat → Int32) (o_ringAt : Nat → Int32) (o_pieceParts : Nat → Int32) (o_dragCell : Nat → Int32) (o_dragBy : Nat → Int32) (o_sums : Nat → Int64) : Option (Int32 × Int32 × Int32 × Int32 × Int32 × Int64 × Int32 × Int32 × (Nat → Int32) × (Nat → Int32) × (Nat → Int32) × (Nat → Int32) × (Nat → Int32) × (Nat → Int32) × (Nat → Int32) × (Nat → Int32) × (Nat → Int64)) :=
  nm (y1 + y0) fun x_1 =>
  nm (v3 + 1) fun x_2 =>
  k81 v1 x_1 x_2 o_level o_noRings o_noTones o_noFuel o_pieces o_drags o_all o_noPieces o_noDrags o_sets o_ringFar o_ringTone o_currents o_warmths o_code o_cellAt o_courseAt o_paceAt o_turnsAt o_slowAt o_fuelAt o_ringAt o_pieceParts o_dragCell o_dragBy o_sums
def f_X7_count_L81b (k81 : Int32 → Int32 → Int32 → Int32 → Int32 → Int32 → Int32 → Int32 → Int32 → Int64 → Int32 → Int32 → (Nat → Int32) → (Nat → Int32) → (Nat → Int32) → (Nat → Int32) → (Nat → Int32) → (Nat → Int32) → (Nat → Int32) → (Nat → Int32) → (Nat → Int32) → (Nat → Int32) → (Nat → Int32) → (Nat → Int32) → (Nat → Int32) → (Nat → Int32) → (Nat → Int32) → (Nat → Int32) → (Nat → Int64) → Option (Int32 × Int32 × Int32 × Int32 × Int32 × Int64 × Int32 × Int32 × (Nat → Int32) × (Nat → Int32) × (Nat → Int32) × (Nat → Int32) × (Nat → Int32) × (Nat → Int32) × (Nat → Int32) × (Nat → Int32) × (Nat → Int64))) (v1 : Int32) (v2 : Int32) (v3 : Int32) (o_level : Int32) (o_noRings : Int32) (o_noTones : Int32) (o_noFuel : Int32) (o_pieces : Int32) (o_drags : Int32) (o_all : Int64) (o_noPieces : Int32) (o_noDrags : Int32) (o_sets : Nat → Int32) (o_ringFar : Nat → Int32) (o_ringTone : Nat → Int32) (o_currents : Nat → Int32) (o_warmths : Nat → Int32) (o_code : Nat → Int32) (o_cellAt : Nat → Int32) (o_courseAt : Nat → Int32) (o_paceAt : Nat → Int32) (o_turnsAt : Nat → Int32) (o_slowAt : Nat → Int32) (o_fuelAt : Nat → Int32) (o_ringAt : Nat → Int32) (o_pieceParts : Nat → Int32) (o_dragCell : Nat → Int32) (o_dragBy : Nat → Int32) (o_sums : Nat → Int64) : Option (Int32 × Int32 × Int32 × Int32 × Int32 × Int64 × Int32 × Int32 × (Nat → Int32) × (Nat → Int32) × (Nat → Int32) × (Nat → Int32) × (Nat → Int32) × (Nat → Int32) × (Nat → Int32) × (Nat → Int32) × (Nat → Int64)) :=
  if 100 ≤ v3 then
    f_X7_count_B112 v1 v2 o_level o_noRings o_noTones o_noFuel o_pieces o_drags o_all o_noPieces o_noDrags o_sets o_ringFar o_ringTone o_currents o_warmths o_code o_cellAt o_courseAt o_paceAt o_turnsAt o_slowAt o_fuelAt o_ringAt o_pieceParts o_dragCell o_dragBy o_sums
  else
    chk (¬ (v3 < 0 ∨ 100 ≤ v3.toNatClampNeg)) <|
    if (lg_cmp (o_sums v3.toNatClampNeg) 0) ≤ 0 then
      f_X7_count_B104 k81 v1 v3 0 v2 o_level o_noRings o_noTones o_noFuel o_pieces o_drags o_all o_noPieces o_noDrags o_sets o_ringFar o_ringTone o_currents o_warmths o_code o_cellAt o_courseAt o_paceAt o_turnsAt o_slowAt o_fuelAt o_ringAt o_pieceParts o_dragCell o_dragBy o_sums
    else
      f_X7_count_B104 k81 v1 v3 1 v2 o_level o_noRings o_noTones o_noFuel o_pieces o_drags o_all o_noPieces o_noDrags o_sets o_ringFar o_ringTone o_currents o_warmths o_code o_cellAt o_courseAt o_paceAt o_turnsAt o_slowAt o_fuelAt o_ringAt o_pieceParts o_dragCell o_dragBy o_sums
def f_X7_count_L81 : Nat → Int32 → Int32 → Int32 → Int32 → Int32 → Int32 → Int32 → Int32 → Int32 → Int64 → Int32 → Int32 → (Nat → Int32) → (Nat → Int32) → (Nat → Int32) → (Nat → Int32) → (Nat → Int32) → (Nat → Int32) → (Nat → Int32) → (Nat → Int32) → (Nat → Int32) → (Nat → Int32) → (Nat → Int32) → (Nat → Int32) → (Nat → Int32) → (Nat → Int32) → (Nat → Int32) → (Nat → Int32) → (Nat → Int64) → Option (Int32 × Int32 × Int32 × Int32 × Int32 × Int64 × Int32 × Int32 × (Nat → Int32) × (Nat → Int32) × (Nat → Int32) × (Nat → Int32) × (Nat → Int32) × (Nat → Int32) × (Nat → Int32) × (Nat → Int32) × (Nat → Int64))
  | 0 => fun _ _ _ _ _ _ _ _ _ _ _ _ _ _ _ _ _ _ _ _ _ _ _ _ _ _ _ _ _ => none
  | n + 1 => f_X7_count_L81b (f_X7_count_L81 n)
def f_X7_count_B70 (v1 : Int32) (v2 : Int32) (o_level : Int32) (o_noRings : Int32) (o_noTones : Int32) (o_noFuel : Int32) (o_pieces : Int32) (o_drags : Int32) (o_all : Int64) (o_noPieces : Int32) (o_noDrags : Int32) (o_sets : Nat → Int32) (o_ringFar : Nat → Int32) (o_ringTone : Nat → Int32) (o_currents : Nat → Int32) (o_warmths : Nat → Int32) (o_code : Nat → Int32) (o_cellAt : Nat → Int32) (o_courseAt : Nat → Int32) (o_paceAt : Nat → Int32) (o_turnsAt : Nat → Int32) (o_slowAt : Nat → Int32) (o_fuelAt : Nat → Int32) (o_ringAt : Nat → Int32) (o_pieceParts : Nat → Int32) (o_dragCell : Nat → Int32) (o_dragBy : Nat → Int32) (o_sums : Nat → Int64) : Option (Int32 × Int32 × Int32 × Int32 × Int32 × Int64 × Int32 × Int32 × (Nat → Int32) × (Nat → Int32) × (Nat → Int32) × (Nat → Int32) × (Nat → Int32) × (Nat → Int32) × (Nat → Int32) × (Nat → Int32) × (Nat → Int64)) :=
  if v1 = 4 then
    bd16 (f_X7_endsAsTold o_level o_noRings o_noTones o_noFuel o_pieces o_drags o_all o_noPieces o_noDrags o_sets o_ringFar o_ringTone o_currents o_warmths o_code o_cellAt o_courseAt o_paceAt o_turnsAt o_slowAt o_fuelAt o_ringAt o_pieceParts o_dragCell o_dragBy o_sums) fun w_3 w_4 w_5 w_6 w_7 w_8 w_9 w_10 w_11 w_12 w_13 w_14 w_15 w_16 w_17 w_18 =>
    f_X7_count_L81 FU v1 v2 0 w_3 w_4 w_5 w_6 o_pieces o_drags w_7 w_8 w_9 o_sets o_ringFar o_ringTone o_currents o_warmths w_10 w_11 w_12 w_13 w_14 w_15 w_16 w_17 o_pieceParts o_dragCell o_dragBy w_18
  else
    f_X7_count_B112 v1 v2 o_level o_noRings o_noTones o_noFuel o_pieces o_drags o_all o_noPieces o_noDrags o_sets o_ringFar o_ringTone o_currents o_warmths o_code o_cellAt o_courseAt o_paceAt o_turnsAt o_slowAt o_fuelAt o_ringAt o_pieceParts o_dragCell o_dragBy o_sums
def f_X7_count_B62 (k18 : Int32 → Int32 → Int32 → Int32 → Int32 → Int32 → Int32 → Int32 → Int32 → Int64 → Int32 → Int32 → (Nat → Int32) → (Nat → Int32) → (Nat → Int32) → (Nat → Int32) → (Nat → Int32) → (Nat → Int32) → (Nat → Int32) → (Nat → Int32) → (Nat → Int32) → (Nat → Int32) → (Nat → Int32) → (Nat → Int32) → (Nat → Int32) → (Nat → Int32) → (Nat → Int32) → (Nat → Int32) → (Nat → Int64) → Option (Int32 × Int32 × Int32 × Int32 × Int32 × Int64 × Int32 × Int32 × (Nat → Int32) × (Nat → Int32) × (Nat → Int32) × (Nat → Int32) × (Nat → Int32) × (Nat → Int32) × (Nat → Int32) × (Nat → Int32) × (Nat → Int64))) (v1 : Int32) (v3 : Int32) (y0 : Int32) (y1 : Int32) (o_level : Int32) (o_noRings : Int32) (o_noTones : Int32) (o_noFuel : Int32) (o_pieces : Int32) (o_drags : Int32) (o_all : Int64) (o_noPieces : Int32) (o_noDrags : Int32) (o_sets : Nat → Int32) (o_ringFar : Nat → Int32) (o_ringTone : Nat → Int32) (o_currents : Nat → Int32) (o_warmths : Nat → Int32) (o_code : Nat → Int32) (o_cellAt : Nat → Int32) (o_courseAt : Nat → Int32) (o_paceAt : Nat → Int32) (o_turnsAt : Nat → Int32) (o_slowAt : Nat → Int32) (o_fuelAt : Nat → Int32) (o_ringAt : Nat → Int32) (o_pieceParts : Nat → Int32) (o_dragCell : Nat → Int32) (o_dragBy : Nat → Int32) (o_sums : Nat → Int64) : Option (Int32 × Int32 × Int32 × Int32 × Int32 × Int64 × Int32 × Int32 × (Nat → Int32) × (Nat → Int32) × (Nat → Int32) × (Nat → Int32) × (Nat → Int32) × (Nat → Int32) × (Nat → Int32) × (Nat → Int32) × (Nat → Int64)) :=
  nm (y1 + y0) fun x_19 =>
  nm (v3 + 1) fun x_20 =>
  k18 v1 x_19 x_20 o_level o_noRings o_noTones o_noFuel o_pieces o_drags o_all o_noPieces o_noDrags o_sets o_ringFar o_ringTone o_currents o_warmths o_code o_cellAt o_courseAt o_paceAt o_turnsAt o_slowAt o_fuelAt o_ringAt o_pieceParts o_dragCell o_dragBy o_sums
def f_X7_count_B61 (k18 : Int32 → Int32 → Int32 → Int32 → Int32 → Int32 → Int32 → Int32 → Int32 → Int64 → Int32 → Int32 → (Nat → Int32) → (Nat → Int32) → (Nat → Int32) → (Nat → Int32) → (Nat → Int32) → (Nat → Int32) → (Nat → Int32) → (Nat → Int32) → (Nat → Int32) → (Nat → Int32) → (Nat → Int32) → (Nat → Int32) → (Nat → Int32) → (Nat → Int32) → (Nat → Int32) → (Nat → Int32) → (Nat → Int64) → Option (Int32 × Int32 × Int32 × Int32 × Int32 × Int64 × Int32 × Int32 × (Nat → Int32) × (Nat → Int32) × (Nat → Int32) × (Nat → Int32) × (Nat → Int32) × (Nat → Int32) × (Nat → Int32) × (Nat → Int32) × (Nat → Int64))) (v1 : Int32) (v3 : Int32) (y0 : Int32) (o_level : Int32) (o_noRings : Int32) (o_noTones : Int32) (o_noFuel : Int32) (o_pieces : Int32) (o_drags : Int32) (o_all : Int64) (o_noPieces : Int32) (o_noDrags : Int32) (o_sets : Nat → Int32) (o_ringFar : Nat → Int32) (o_ringTone : Nat → Int32) (o_currents : Nat → Int32) (o_warmths : Nat → Int32) (o_code : Nat → Int32) (o_cellAt : Nat → Int32) (o_courseAt : Nat → Int32) (o_paceAt : Nat → Int32) (o_turnsAt : Nat → Int32) (o_slowAt : Nat → Int32) (o_fuelAt : Nat → Int32) (o_ringAt : Nat → Int32) (o_pieceParts : Nat → Int32) (o_dragCell : Nat → Int32) (o_dragBy : Nat → Int32) (o_sums : Nat → Int64) : Option (Int32 × Int32 × Int32 × Int32 × Int32 × Int64 × Int32 × Int32 × (Nat → Int32) × (Nat → Int32) × (Nat → Int32) × (Nat → Int32) × (Nat → Int32) × (Nat → Int32) × (Nat → Int32) × (Nat → Int32) × (Nat → Int64)) :=
  f_X7_count_B62 k18 v1 v3 0 y0 o_level o_noRings o_noTones o_noFuel o_pieces o_drags o_all o_noPieces o_noDrags o_sets o_ringFar o_ringTone o_currents o_warmths o_code o_cellAt o_courseAt o_paceAt o_turnsAt o_slowAt o_fuelAt o_ringAt o_pieceParts o_dragCell o_dragBy o_sums
def f_X7_count_B57 (k18 : Int32 → Int32 → Int32 → Int32 → Int32 → Int32 → Int32 → Int32 → Int32 → Int64 → Int32 → Int32 → (Nat → Int32) → (Nat → Int32) → (Nat → Int32) → (Nat → Int32) → (Nat → Int32) → (Nat → Int32) → (Nat → Int32) → (Nat → Int32) → (Nat → Int32) → (Nat → Int32) → (Nat → Int32) → (Nat → Int32) → (Nat → Int32) → (Nat → Int32) → (Nat → Int32) → (Nat → Int32) → (Nat → Int64) → Option (Int32 × Int32 × Int32 × Int32 × Int32 × Int64 × Int32 × Int32 × (Nat → Int32) × (Nat → Int32) × (Nat → Int32) × (Nat → Int32) × (Nat → Int32) × (Nat → Int32) × (Nat → Int32) × (Nat → Int32) × (Nat → Int64))) (v1 : Int32) (v3 : Int32) (y0 : Int32) (o_level : Int32) (o_noRings : Int32) (o_noTones : Int32) (o_noFuel : Int32) (o_pieces : Int32) (o_drags : Int32) (o_all : Int64) (o_noPieces : Int32) (o_noDrags : Int32) (o_sets : Nat → Int32) (o_ringFar : Nat → Int32) (o_ringTone : Nat → Int32) (o_currents : Nat → Int32) (o_warmths : Nat → Int32) (o_code : Nat → Int32) (o_cellAt : Nat → Int32) (o_courseAt : Nat → Int32) (o_paceAt : Nat → Int32) (o_turnsAt : Nat → Int32) (o_slowAt : Nat → Int32) (o_fuelAt : Nat → Int32) (o_ringAt : Nat → Int32) (o_pieceParts : Nat → Int32) (o_dragCell : Nat → Int32) (o_dragBy : Nat → Int32) (o_sums : Nat → Int64) : Option (Int32 × Int32 × Int32 × Int32 × Int32 × Int64 × Int32 × Int32 × (Nat → Int32) × (Nat → Int32) × (Nat → Int32) × (Nat → Int32) × (Nat → Int32) × (Nat → Int32) × (Nat → Int32) × (Nat → Int32) × (Nat → Int64)) :=
  f_X7_count_B62 k18 v1 v3 1 y0 o_level o_noRings o_noTones o_noFuel o_pieces o_drags o_all o_noPieces o_noDrags o_sets o_ringFar o_ringTone o_currents o_warmths o_code o_cellAt o_courseAt o_paceAt o_turnsAt o_slowAt o_fuelAt o_ringAt o_pieceParts o_dragCell o_dragBy o_sums
def f_X7_count_B43 (k18 : Int32 → Int32 → Int32 → Int32 → Int32 → Int32 → Int32 → Int32 → Int32 → Int64 → Int32 → Int32 → (Nat → Int32) → (Nat → Int32) → (Nat → Int32) → (Nat → Int32) → (Nat → Int32) → (Nat → Int32) → (Nat → Int32) → (Nat → Int32) → (Nat → Int32) → (Nat → Int32) → (Nat → Int32) → (Nat → Int32) → (Nat → Int32) → (Nat → Int32) → (Nat → Int32) → (Nat → Int32) → (Nat → Int64) → Option (Int32 × Int32 × Int32 × Int32 × Int32 × Int64 × Int32 × Int32 × (Nat → Int32) × (Nat → Int32) × (Nat → Int32) × (Nat → Int32) × (Nat → Int32) × (Nat → Int32) × (Nat → Int32) × (Nat → Int32) × (Nat → Int64))) (v1 : Int32) (v3 : Int32) (y0 : Int32) (o_level : Int32) (o_noRings : Int32) (o_noTones : Int32) (o_noFuel : Int32) (o_pieces : Int32) (o_drags : Int32) (o_all : Int64) (o_noPieces : Int32) (o_noDrags : Int32) (o_sets : Nat → Int32) (o_ringFar : Nat → Int32) (o_ringTone : Nat → Int32) (o_currents : Nat → Int32) (o_warmths : Nat → Int32) (o_code : Nat → Int32) (o_cellAt : Nat → Int32) (o_courseAt : Nat → Int32) (o_paceAt : Nat → Int32) (o_turnsAt : Nat → Int32) (o_slowAt : Nat → Int32) (o_fuelAt : Nat → Int32) (o_ringAt : Nat → Int32) (o_pieceParts : Nat → Int32) (o_dragCell : Nat → Int32) (o_dragBy : Nat → Int32) (o_sums : Nat → Int64) : Option (Int32 × Int32 × Int32 × Int32 × Int32 × Int64 × Int32 × Int32 × (Nat → Int32) × (Nat → Int32) × (Nat → Int32) × (Nat → Int32) × (Nat → Int32) × (Nat → Int32) × (Nat → Int32) × (Nat → Int32) × (Nat → Int64)) :=
  if v1 = 1 then
    chk (¬ (v3 < 0 ∨ 7 ≤ v3.toNatClampNeg)) <|
    if (o_ringTone v3.toNatClampNeg) ≤ 0 then
      f_X7_count_B61 k18 v1 v3 y0 o_level o_noRings o_noTones o_noFuel o_pieces o_drags o_all o_noPieces o_noDrags o_sets o_ringFar o_ringTone o_currents o_warmths o_code o_cellAt o_courseAt o_paceAt o_turnsAt o_slowAt o_fuelAt o_ringAt o_pieceParts o_dragCell o_dragBy o_sums
    else
      f_X7_count_B57 k18 v1 v3 y0 o_level o_noRings o_noTones o_noFuel o_pieces o_drags o_all o_noPieces o_noDrags o_sets o_ringFar o_ringTone o_currents o_warmths o_code o_cellAt o_courseAt o_paceAt o_turnsAt o_slowAt o_fuelAt o_ringAt o_pieceParts o_dragCell o_dragBy o_sums
  else
    f_X7_count_B61 k18 v1 v3 y0 o_level o_noRings o_noTones o_noFuel o_pieces o_drags o_all o_noPieces o_noDrags o_sets o_ringFar o_ringTone o_currents o_warmths o_code o_cellAt o_courseAt o_paceAt o_turnsAt o_slowAt o_fuelAt o_ringAt o_pieceParts o_dragCell o_dragBy o_sums
def f_X7_count_L18b (k18 : Int32 → Int32 → Int32 → Int32 → Int32 → Int32 → Int32 → Int32 → Int32 → Int64 → Int32 → Int32 → (Nat → Int32) → (Nat → Int32) → (Nat → Int32) → (Nat → Int32) → (Nat → Int32) → (Nat → Int32) → (Nat → Int32) → (Nat → Int32) → (Nat → Int32) → (Nat → Int32) → (Nat → Int32) → (Nat → Int32) → (Nat → Int32) → (Nat → Int32) → (Nat → Int32) → (Nat → Int32) → (Nat → Int64) → Option (Int32 × Int32 × Int32 × Int32 × Int32 × Int64 × Int32 × Int32 × (Nat → Int32) × (Nat → Int32) × (Nat → Int32) × (Nat → Int32) × (Nat → Int32) × (Nat → Int32) × (Nat → Int32) × (Nat → Int32) × (Nat → Int64))) (v1 : Int32) (v2 : Int32) (v3 : Int32) (o_level : Int32) (o_noRings : Int32) (o_noTones : Int32) (o_noFuel : Int32) (o_pieces : Int32) (o_drags : Int32) (o_all : Int64) (o_noPieces : Int32) (o_noDrags : Int32) (o_sets : Nat → Int32) (o_ringFar : Nat → Int32) (o_ringTone : Nat → Int32) (o_currents : Nat → Int32) (o_warmths : Nat → Int32) (o_code : Nat → Int32) (o_cellAt : Nat → Int32) (o_courseAt : Nat → Int32) (o_paceAt : Nat → Int32) (o_turnsAt : Nat → Int32) (o_slowAt : Nat → Int32) (o_fuelAt : Nat → Int32) (o_ringAt : Nat → Int32) (o_pieceParts : Nat → Int32) (o_dragCell : Nat → Int32) (o_dragBy : Nat → Int32) (o_sums : Nat → Int64) : Option (Int32 × Int32 × Int32 × Int32 × Int32 × Int64 × Int32 × Int32 × (Nat → Int32) × (Nat → Int32) × (Nat → Int32) × (Nat → Int32) × (Nat → Int32) × (Nat → Int32) × (Nat → Int32) × (Nat → Int32) × (Nat → Int64)) :=
  if 7 ≤ v3 then
    f_X7_count_B70 v1 v2 o_level o_noRings o_noTones o_noFuel o_pieces o_drags o_all o_noPieces o_noDrags o_sets o_ringFar o_ringTone o_currents o_warmths o_code o_cellAt o_courseAt o_paceAt o_turnsAt o_slowAt o_fuelAt o_ringAt o_pieceParts o_dragCell o_dragBy o_sums
  else
    if 2 ≤ v1 then
      f_X7_count_B70 v1 v2 o_level o_noRings o_noTones o_noFuel o_pieces o_drags o_all o_noPieces o_noDrags o_sets o_ringFar o_ringTone o_currents o_warmths o_code o_cellAt o_courseAt o_paceAt o_turnsAt o_slowAt o_fuelAt o_ringAt o_pieceParts o_dragCell o_dragBy o_sums
    else
      if v1 = 0 then
        chk (¬ (v3 < 0 ∨ 7 ≤ v3.toNatClampNeg)) <|
        if 0 ≤ (o_ringFar v3.toNatClampNeg) then
          f_X7_count_B57 k18 v1 v3 v2 o_level o_noRings o_noTones o_noFuel o_pieces o_drags o_all o_noPieces o_noDrags o_sets o_ringFar o_ringTone o_currents o_warmths o_code o_cellAt o_courseAt o_paceAt o_turnsAt o_slowAt o_fuelAt o_ringAt o_pieceParts o_dragCell o_dragBy o_sums
        else
          f_X7_count_B43 k18 v1 v3 v2 o_level o_noRings o_noTones o_noFuel o_pieces o_drags o_all o_noPieces o_noDrags o_sets o_ringFar o_ringTone o_currents o_warmths o_code o_cellAt o_courseAt o_paceAt o_turnsAt o_slowAt o_fuelAt o_ringAt o_pieceParts o_dragCell o_dragBy o_sums
      else
        f_X7_count_B43 k18 v1 v3 v2 o_level o_noRings o_noTones o_noFuel o_pieces o_drags o_all o_noPieces o_noDrags o_sets o_ringFar o_ringTone o_currents o_warmths o_code o_cellAt o_courseAt o_paceAt o_turnsAt o_slowAt o_fuelAt o_ringAt o_pieceParts o_dragCell o_dragBy o_sums
def f_X7_count_L18 : Nat → Int32 → Int32 → Int32 → Int32 → Int32 → Int32 → Int32 → Int32 → Int32 → Int64 → Int32 → Int32 → (Nat → Int32) → (Nat → Int32) → (Nat → Int32) → (Nat → Int32) → (Nat → Int32) → (Nat → Int32) → (Nat → Int32) → (Nat → Int32) → (Nat → Int32) → (Nat → Int32) → (Nat → Int32) → (Nat → Int32) → (Nat → Int32) → (Nat → Int32) → (Nat → Int32) → (Nat → Int32) → (Nat → Int64) → Option (Int32 × Int32 × Int32 × Int32 × Int32 × Int64 × Int32 × Int32 × (Nat → Int32) × (Nat → Int32) × (Nat → Int32) × (Nat → Int32) × (Nat → Int32) × (Nat → Int32) × (Nat → Int32) × (Nat → Int32) × (Nat → Int64))
  | 0 => fun _ _ _ _ _ _ _ _ _ _ _ _ _ _ _ _ _ _ _ _ _ _ _ _ _ _ _ _ _ => none
  | n + 1 => f_X7_count_L18b (f_X7_count_L18 n)
def f_X7_count (x1 : Int32) (o_level : Int32) (o_noRings : Int32) (o_noTones : Int32) (o_noFuel : Int32) (o_pieces : Int32) (o_drags : Int32) (o_all : Int64) (o_noPieces : Int32) (o_noDrags : Int32) (o_sets : Nat → Int32) (o_ringFar : Nat → Int32) (o_ringTone : Nat → Int32) (o_currents : Nat → Int32) (o_warmths : Nat → Int32) (o_code : Nat → Int32) (o_cellAt : Nat → Int32) (o_courseAt : Nat → Int32) (o_paceAt : Nat → Int32) (o_turnsAt : Nat → Int32) (o_slowAt : Nat → Int32) (o_fuelAt : Nat → Int32) (o_ringAt : Nat → Int32) (o_pieceParts : Nat → Int32) (o_dragCell : Nat → Int32) (o_dragBy : Nat → Int32) (o_sums : Nat → Int64) : Option (Int32 × Int32 × Int32 × Int32 × Int32 × Int64 × Int32 × Int32 × (Nat → Int32) × (Nat → Int32) × (Nat → Int32) × (Nat → Int32) × (Nat → Int32) × (Nat → Int32) × (Nat → Int32) × (Nat → Int32) × (Nat → Int64)) :=
  bd1 (f_X7_in x1.toInt64 0 4) fun r_21 =>
  if r_21 = 0 then
    some ((-1), o_level, o_noRings, o_noTones, o_noFuel, o_all, o_noPieces, o_noDrags, o_code, o_cellAt, o_courseAt, o_paceAt, o_turnsAt, o_slowAt, o_fuelAt, o_ringAt, o_sums)
  else
    f_X7_count_L18 FU x1 0 1 o_level o_noRings o_noTones o_noFuel o_pieces o_drags o_all o_noPieces o_noDrags o_sets o_ringFar o_ringTone o_currents o_warmths o_code o_cellAt o_courseAt o_paceAt o_turnsAt o_slowAt o_fuelAt o_ringAt o_pieceParts o_dragCell o_dragBy o_sums
abbrev rm_X7_count : Room := { frames := 6, cells := 0, slots := 0, locals := 148 }
set_option maxRecDepth 100000 in
set_option maxHeartbeats 4000000 in
theorem c_X7_count (l : Launch) (dC : Nat → ClassId) (dI : Nat → Nat → Nat) (cyI cyJ cyO : ClassId) (sz : Nat) (h_o a_o_sets a_o_ringFar a_o_ringTone a_o_currents a_o_warmths a_o_depths a_o_tape a_o_readFar a_o_readTone a_o_readSea a_o_code a_o_cellAt a_o_courseAt a_o_paceAt a_o_turnsAt a_o_slowAt a_o_fuelAt a_o_ringAt a_o_pieceParts a_o_dragCell a_o_dragBy a_o_sums a_o_shares a_o_keptFar a_o_image a_o_lanes a_o_sizes a_o_items a_o_movedItems : Nat) (o_taped : Int32) (o_at : Int32) (o_wrong : Int32) (o_level : Int32) (o_noRings : Int32) (o_noTones : Int32) (o_noFuel : Int32) (o_pieces : Int32) (o_drags : Int32) (o_all : Int64) (o_noPieces : Int32) (o_noDrags : Int32) (o_kept : Int32) (o_sets : Nat → Int32) (o_ringFar : Nat → Int32) (o_ringTone : Nat → Int32) (o_currents : Nat → Int32) (o_warmths : Nat → Int32) (o_code : Nat → Int32) (o_cellAt : Nat → Int32) (o_courseAt : Nat → Int32) (o_paceAt : Nat → Int32) (o_turnsAt : Nat → Int32) (o_slowAt : Nat → Int32) (o_fuelAt : Nat → Int32) (o_ringAt : Nat → Int32) (o_pieceParts : Nat → Int32) (o_dragCell : Nat → Int32) (o_dragBy : Nat → Int32) (o_sums : Nat → Int64) (x1 : Int32) (post : (Int32 × Int32 × Int32 × Int32 × Int32 × Int64 × Int32 × Int32 × (Nat → Int32) × (Nat → Int32) × (Nat → Int32) × (Nat → Int32) × (Nat → Int32) × (Nat → Int32) × (Nat → Int32) × (Nat → Int32) × (Nat → Int64)) → Prop) (hf : okP (f_X7_count x1 o_level o_noRings o_noTones o_noFuel o_pieces o_drags o_all o_noPieces o_noDrags o_sets o_ringFar o_ringTone o_currents o_warmths o_code o_cellAt o_courseAt o_paceAt o_turnsAt o_slowAt o_fuelAt o_ringAt o_pieceParts o_dragCell o_dragBy o_sums) post) : Ci l (dC, dI) (tyL cyI cyJ cyO) yX7_count wsX7_count rm_X7_count [.ref h_o, .int x1] sz (W_X7_count cyI cyJ cyO h_o a_o_sets a_o_ringFar a_o_ringTone a_o_currents a_o_warmths a_o_depths a_o_tape a_o_readFar a_o_readTone a_o_readSea a_o_code a_o_cellAt a_o_courseAt a_o_paceAt a_o_turnsAt a_o_slowAt a_o_fuelAt a_o_ringAt a_o_pieceParts a_o_dragCell a_o_dragBy a_o_sums a_o_shares a_o_keptFar a_o_image a_o_lanes a_o_sizes a_o_items a_o_movedItems o_taped o_at o_wrong o_level o_noRings o_noTones o_noFuel o_pieces o_drags o_all o_noPieces o_noDrags o_kept o_sets o_ringFar o_ringTone o_currents o_warmths o_code o_cellAt o_courseAt o_paceAt o_turnsAt o_slowAt o_fuelAt o_ringAt o_pieceParts o_dragCell o_dragBy o_sums) zN (fun r u => post (r, u)) (fun u => (W_X7_count cyI cyJ cyO h_o a_o_sets a_o_ringFar a_o_ringTone a_o_currents a_o_warmths a_o_depths a_o_tape a_o_readFar a_o_readTone a_o_readSea a_o_code a_o_cellAt a_o_courseAt a_o_paceAt a_o_turnsAt a_o_slowAt a_o_fuelAt a_o_ringAt a_o_pieceParts a_o_dragCell a_o_dragBy a_o_sums a_o_shares a_o_keptFar a_o_image a_o_lanes a_o_sizes a_o_items a_o_movedItems o_taped o_at o_wrong u.1 u.2.1 u.2.2.1 u.2.2.2.1 o_pieces o_drags u.2.2.2.2.1 u.2.2.2.2.2.1 u.2.2.2.2.2.2.1 o_kept o_sets o_ringFar o_ringTone o_currents o_warmths u.2.2.2.2.2.2.2.1 u.2.2.2.2.2.2.2.2.1 u.2.2.2.2.2.2.2.2.2.1 u.2.2.2.2.2.2.2.2.2.2.1 u.2.2.2.2.2.2.2.2.2.2.2.1 u.2.2.2.2.2.2.2.2.2.2.2.2.1 u.2.2.2.2.2.2.2.2.2.2.2.2.2.1 u.2.2.2.2.2.2.2.2.2.2.2.2.2.2.1 o_pieceParts o_dragCell o_dragBy u.2.2.2.2.2.2.2.2.2.2.2.2.2.2.2)) := by
  refine Met.ofW (cc := cX7_count) (maxL := 4) (ret := (some .int)) (by decide) rfl ?_
  intro p e s m args below meth c s₁ B hml hv
  obtain ⟨rfl, hsz, hP, hK, hD0, hZ⟩ := hv
  have hx := B.exec
  have hb := B.bytes
  have hr := B.returns
  have hts := atoms_spec (ws := wsX7_count) B.pre
  have hown : s.vm.findClass RX7 = some m.cls := findClass_of_methodNamed B.named
  have hlocks := B.notSynchronized
  subst hsz
  have hD := hD0.self (sz := s.heap.size)
  generalize hAe : va_A (W_X7_count cyI cyJ cyO h_o a_o_sets a_o_ringFar a_o_ringTone a_o_currents a_o_warmths a_o_depths a_o_tape a_o_readFar a_o_readTone a_o_readSea a_o_code a_o_cellAt a_o_courseAt a_o_paceAt a_o_turnsAt a_o_slowAt a_o_fuelAt a_o_ringAt a_o_pieceParts a_o_dragCell a_o_dragBy a_o_sums a_o_shares a_o_keptFar a_o_image a_o_lanes a_o_sizes a_o_items a_o_movedItems o_taped o_at o_wrong o_level o_noRings o_noTones o_noFuel o_pieces o_drags o_all o_noPieces o_noDrags o_kept o_sets o_ringFar o_ringTone o_currents o_warmths o_code o_cellAt o_courseAt o_paceAt o_turnsAt o_slowAt o_fuelAt o_ringAt o_pieceParts o_dragCell o_dragBy o_sums) s.heap.size = A at hD hZ ⊢
  have hA : ∀ q : Nat, s.heap.size ≤ q → A q := fun q h => by rw [← hAe]; exact Or.inr h
  clear hAe hD0
  have hS : va_S A s.heap s.heap [] := va_S.rf
  have hl := lv_entry ([.ref h_o, .int x1]) (n := 4) (Nat.le_of_ble_eq_true rfl)
  rw [lg_entry_eq]
  generalize (lg_sl ([.ref h_o, .int x1]) ++ List.replicate (4 - (lg_sl ([.ref h_o, .int x1])).length) Slot.unset).toArray = ls at hl ⊢
  have hl : lv_has ls 4 [(0, .ref h_o), (1, .int x1)] := hl
  refine kW (fun Q hQ => ?_)
  have hq0 := hts _ (List.mem_cons_of_mem _ q_733)
  have hi7 : ∀ w ∈ u_ws RX7 TX7 42, w ∈ wsX7_count := fun w h => List.mem_cons_of_mem _ (inX7 w h)
  have hq2 := hts _ (List.mem_cons_of_mem _ q_731)
  have hq3 := hts _ (List.mem_cons_of_mem _ q_736)
  have hq4 := hts _ (List.mem_cons_of_mem _ q_708)
  have hq5 := hts _ (List.mem_cons_of_mem _ q_707)
  have hq6 := hts _ (List.mem_cons_of_mem _ q_1011)
  have hw := hf
  have w112 : ∀ (v1 : Int32) (v2 : Int32) (o_level : Int32) (o_noRings : Int32) (o_noTones : Int32) (o_noFuel : Int32) (o_all : Int64) (o_noPieces : Int32) (o_noDrags : Int32) (o_code : Nat → Int32) (o_cellAt : Nat → Int32) (o_courseAt : Nat → Int32) (o_paceAt : Nat → Int32) (o_turnsAt : Nat → Int32) (o_slowAt : Nat → Int32) (o_fuelAt : Nat → Int32) (o_ringAt : Nat → Int32) (o_sums : Nat → Int64) (H : Heap) (locs : List Loc), va_P (dC, dI) vwCl (W_X7_count cyI cyJ cyO h_o a_o_sets a_o_ringFar a_o_ringTone a_o_currents a_o_warmths a_o_depths a_o_tape a_o_readFar a_o_readTone a_o_readSea a_o_code a_o_cellAt a_o_courseAt a_o_paceAt a_o_turnsAt a_o_slowAt a_o_fuelAt a_o_ringAt a_o_pieceParts a_o_dragCell a_o_dragBy a_o_sums a_o_shares a_o_keptFar a_o_image a_o_lanes a_o_sizes a_o_items a_o_movedItems o_taped o_at o_wrong o_level o_noRings o_noTones o_noFuel o_pieces o_drags o_all o_noPieces o_noDrags o_kept o_sets o_ringFar o_ringTone o_currents o_warmths o_code o_cellAt o_courseAt o_paceAt o_turnsAt o_slowAt o_fuelAt o_ringAt o_pieceParts o_dragCell o_dragBy o_sums) H → va_D A (W_X7_count cyI cyJ cyO h_o a_o_sets a_o_ringFar a_o_ringTone a_o_currents a_o_warmths a_o_depths a_o_tape a_o_readFar a_o_readTone a_o_readSea a_o_code a_o_cellAt a_o_courseAt a_o_paceAt a_o_turnsAt a_o_slowAt a_o_fuelAt a_o_ringAt a_o_pieceParts a_o_dragCell a_o_dragBy a_o_sums a_o_shares a_o_keptFar a_o_image a_o_lanes a_o_sizes a_o_items a_o_movedItems o_taped o_at o_wrong o_level o_noRings o_noTones o_noFuel o_pieces o_drags o_all o_noPieces o_noDrags o_kept o_sets o_ringFar o_ringTone o_currents o_warmths o_code o_cellAt o_courseAt o_paceAt o_turnsAt o_slowAt o_fuelAt o_ringAt o_pieceParts o_dragCell o_dragBy o_sums) → va_S A s.heap H locs → ∀ (ls : Array Slot), lv_has ls 4 [(0, .ref h_o), (1, .int v1), (2, .int v2)] → okP (f_X7_count_B112 v1 v2 o_level o_noRings o_noTones o_noFuel o_pieces o_drags o_all o_noPieces o_noDrags o_sets o_ringFar o_ringTone o_currents o_warmths o_code o_cellAt o_courseAt o_paceAt o_turnsAt o_slowAt o_fuelAt o_ringAt o_pieceParts o_dragCell o_dragBy o_sums) post → W p l e (headSpec wsX7_count rm_X7_count).room s m ([.ref h_o, .int x1] : List Value).toArray below meth c H locs 0 0 Q (F0 m 112 ls []) := by
    intro v1 v2 o_level o_noRings o_noTones o_noFuel o_all o_noPieces o_noDrags o_code o_cellAt o_courseAt o_paceAt o_turnsAt o_slowAt o_fuelAt o_ringAt o_sums H locs hP hD hS ls hl hw
    unfold f_X7_count_B112 at hw
    refine lv_iload_n hx hb dX7_count_112 rfl (lv_at hl 1 rfl) ?_
    refine lv_iconst (v := 2) hx hb dX7_count_113 (by decide) ?_
    refine lv_icmp_ne (tgt := 124) hx hb dX7_count_114 (by decide) (fun c_1 => ?_) (fun c_1 => ?_)
    · replace hw := okF hw c_1
      clear c_1
      refine lv_iload_n hx hb dX7_count_124 rfl (lv_at hl 1 rfl) ?_
      refine lv_iconst (v := 3) hx hb dX7_count_125 (by decide) ?_
      refine lv_icmp_ne (tgt := 136) hx hb dX7_count_126 (by decide) (fun c_2 => ?_) (fun c_2 => ?_)
      · replace hw := okF hw c_2
        clear c_2
        refine lv_iload_n hx hb dX7_count_136 rfl (lv_at hl 2 rfl) ?_
        rw [hQ]
        exact W.iret (v := v2) hx hb hr (fun t ht hW => ⟨⟨v2, (o_level, o_noRings, o_noTones, o_noFuel, o_all, o_noPieces, o_noDrags, o_code, o_cellAt, o_courseAt, o_paceAt, o_turnsAt, o_slowAt, o_fuelAt, o_ringAt, o_sums), rfl, okS hw, by rw [ht]; exact hP, va_K.moved hW.alike hK, hD⟩, hS.F ht⟩) hS.2.2 dX7_count_137
      · replace hw := okT hw c_2
        clear c_2
        refine lv_aload_n hx hb dX7_count_129 rfl (lv_at hl 0 rfl) ?_
        refine va_get (D := (dC, dI)) (ci := 7) (v := .int o_drags) (C := RX7) (T := TX7) (N := 42) hx hb hts hi7 hown hK hP 0 rfl rfl 27 (by decide) hq0 (fun _ h9 => h9) rfl dX7_count_130 ?_
        refine lv_goto (tgt := 137) hx hb dX7_count_133 (by decide) ?_
        rw [hQ]
        exact W.iret (v := o_drags) hx hb hr (fun t ht hW => ⟨⟨o_drags, (o_level, o_noRings, o_noTones, o_noFuel, o_all, o_noPieces, o_noDrags, o_code, o_cellAt, o_courseAt, o_paceAt, o_turnsAt, o_slowAt, o_fuelAt, o_ringAt, o_sums), rfl, okS hw, by rw [ht]; exact hP, va_K.moved hW.alike hK, hD⟩, hS.F ht⟩) hS.2.2 dX7_count_137
    · replace hw := okT hw c_1
      clear c_1
      refine lv_aload_n hx hb dX7_count_117 rfl (lv_at hl 0 rfl) ?_
      refine va_get (D := (dC, dI)) (ci := 7) (v := .int o_pieces) (C := RX7) (T := TX7) (N := 42) hx hb hts hi7 hown hK hP 0 rfl rfl 25 (by decide) hq2 (fun _ h9 => h9) rfl dX7_count_118 ?_
      refine lv_goto (tgt := 137) hx hb dX7_count_121 (by decide) ?_
      rw [hQ]
      exact W.iret (v := o_pieces) hx hb hr (fun t ht hW => ⟨⟨o_pieces, (o_level, o_noRings, o_noTones, o_noFuel, o_all, o_noPieces, o_noDrags, o_code, o_cellAt, o_courseAt, o_paceAt, o_turnsAt, o_slowAt, o_fuelAt, o_ringAt, o_sums), rfl, okS hw, by rw [ht]; exact hP, va_K.moved hW.alike hK, hD⟩, hS.F ht⟩) hS.2.2 dX7_count_137
  have w81 : ∀ (n : Nat), ∀ (v1 : Int32) (v2 : Int32) (v3 : Int32) (o_level : Int32) (o_noRings : Int32) (o_noTones : Int32) (o_noFuel : Int32) (o_all : Int64) (o_noPieces : Int32) (o_noDrags : Int32) (o_code : Nat → Int32) (o_cellAt : Nat → Int32) (o_courseAt : Nat → Int32) (o_paceAt : Nat → Int32) (o_turnsAt : Nat → Int32) (o_slowAt : Nat → Int32) (o_fuelAt : Nat → Int32) (o_ringAt : Nat → Int32) (o_sums : Nat → Int64) (H : Heap) (locs : List Loc), va_P (dC, dI) vwCl (W_X7_count cyI cyJ cyO h_o a_o_sets a_o_ringFar a_o_ringTone a_o_currents a_o_warmths a_o_depths a_o_tape a_o_readFar a_o_readTone a_o_readSea a_o_code a_o_cellAt a_o_courseAt a_o_paceAt a_o_turnsAt a_o_slowAt a_o_fuelAt a_o_ringAt a_o_pieceParts a_o_dragCell a_o_dragBy a_o_sums a_o_shares a_o_keptFar a_o_image a_o_lanes a_o_sizes a_o_items a_o_movedItems o_taped o_at o_wrong o_level o_noRings o_noTones o_noFuel o_pieces o_drags o_all o_noPieces o_noDrags o_kept o_sets o_ringFar o_ringTone o_currents o_warmths o_code o_cellAt o_courseAt o_paceAt o_turnsAt o_slowAt o_fuelAt o_ringAt o_pieceParts o_dragCell o_dragBy o_sums) H → va_D A (W_X7_count cyI cyJ cyO h_o a_o_sets a_o_ringFar a_o_ringTone a_o_currents a_o_warmths a_o_depths a_o_tape a_o_readFar a_o_readTone a_o_readSea a_o_code a_o_cellAt a_o_courseAt a_o_paceAt a_o_turnsAt a_o_slowAt a_o_fuelAt a_o_ringAt a_o_pieceParts a_o_dragCell a_o_dragBy a_o_sums a_o_shares a_o_keptFar a_o_image a_o_lanes a_o_sizes a_o_items a_o_movedItems o_taped o_at o_wrong o_level o_noRings o_noTones o_noFuel o_pieces o_drags o_all o_noPieces o_noDrags o_kept o_sets o_ringFar o_ringTone o_currents o_warmths o_code o_cellAt o_courseAt o_paceAt o_turnsAt o_slowAt o_fuelAt o_ringAt o_pieceParts o_dragCell o_dragBy o_sums) → va_S A s.heap H locs → ∀ (ls : Array Slot), lv_has ls 4 [(0, .ref h_o), (1, .int v1), (2, .int v2), (3, .int v3)] → okP (f_X7_count_L81 n v1 v2 v3 o_level o_noRings o_noTones o_noFuel o_pieces o_drags o_all o_noPieces o_noDrags o_sets o_ringFar o_ringTone o_currents o_warmths o_code o_cellAt o_courseAt o_paceAt o_turnsAt o_slowAt o_fuelAt o_ringAt o_pieceParts o_dragCell o_dragBy o_sums) post → W p l e (headSpec wsX7_count rm_X7_count).room s m ([.ref h_o, .int x1] : List Value).toArray below meth c H locs 0 0 Q (F0 m 81 ls []) := by
    intro n
    induction n with
    | zero =>
      intro v1 v2 v3 o_level o_noRings o_noTones o_noFuel o_all o_noPieces o_noDrags o_code o_cellAt o_courseAt o_paceAt o_turnsAt o_slowAt o_fuelAt o_ringAt o_sums H locs hP hD hS ls hl hw
      exact (ok0 hw).elim
    | succ n81 ih81 =>
      have w104 : ∀ (v1 : Int32) (v3 : Int32) (y0 : Int32) (y1 : Int32) (o_level : Int32) (o_noRings : Int32) (o_noTones : Int32) (o_noFuel : Int32) (o_all : Int64) (o_noPieces : Int32) (o_noDrags : Int32) (o_code : Nat → Int32) (o_cellAt : Nat → Int32) (o_courseAt : Nat → Int32) (o_paceAt : Nat → Int32) (o_turnsAt : Nat → Int32) (o_slowAt : Nat → Int32) (o_fuelAt : Nat → Int32) (o_ringAt : Nat → Int32) (o_sums : Nat → Int64) (H : Heap) (locs : List Loc), va_P (dC, dI) vwCl (W_X7_count cyI cyJ cyO h_o a_o_sets a_o_ringFar a_o_ringTone a_o_currents a_o_warmths a_o_depths a_o_tape a_o_readFar a_o_readTone a_o_readSea a_o_code a_o_cellAt a_o_courseAt a_o_paceAt a_o_turnsAt a_o_slowAt a_o_fuelAt a_o_ringAt a_o_pieceParts a_o_dragCell a_o_dragBy a_o_sums a_o_shares a_o_keptFar a_o_image a_o_lanes a_o_sizes a_o_items a_o_movedItems o_taped o_at o_wrong o_level o_noRings o_noTones o_noFuel o_pieces o_drags o_all o_noPieces o_noDrags o_kept o_sets o_ringFar o_ringTone o_currents o_warmths o_code o_cellAt o_courseAt o_paceAt o_turnsAt o_slowAt o_fuelAt o_ringAt o_pieceParts o_dragCell o_dragBy o_sums) H → va_D A (W_X7_count cyI cyJ cyO h_o a_o_sets a_o_ringFar a_o_ringTone a_o_currents a_o_warmths a_o_depths a_o_tape a_o_readFar a_o_readTone a_o_readSea a_o_code a_o_cellAt a_o_courseAt a_o_paceAt a_o_turnsAt a_o_slowAt a_o_fuelAt a_o_ringAt a_o_pieceParts a_o_dragCell a_o_dragBy a_o_sums a_o_shares a_o_keptFar a_o_image a_o_lanes a_o_sizes a_o_items a_o_movedItems o_taped o_at o_wrong o_level o_noRings o_noTones o_noFuel o_pieces o_drags o_all o_noPieces o_noDrags o_kept o_sets o_ringFar o_ringTone o_currents o_warmths o_code o_cellAt o_courseAt o_paceAt o_turnsAt o_slowAt o_fuelAt o_ringAt o_pieceParts o_dragCell o_dragBy o_sums) → va_S A s.heap H locs → ∀ (ls : Array Slot), lv_has ls 4 [(0, .ref h_o), (1, .int v1), (3, .int v3)] → okP (f_X7_count_B104 (f_X7_count_L81 n81) v1 v3 y0 y1 o_level o_noRings o_noTones o_noFuel o_pieces o_drags o_all o_noPieces o_noDrags o_sets o_ringFar o_ringTone o_currents o_warmths o_code o_cellAt o_courseAt o_paceAt o_turnsAt o_slowAt o_fuelAt o_ringAt o_pieceParts o_dragCell o_dragBy o_sums) post → W p l e (headSpec wsX7_count rm_X7_count).room s m ([.ref h_o, .int x1] : List Value).toArray below meth c H locs 0 0 Q (F0 m 104 ls [.int y0, .int y1]) := by
        intro v1 v3 y0 y1 o_level o_noRings o_noTones o_noFuel o_all o_noPieces o_noDrags o_code o_cellAt o_courseAt o_paceAt o_turnsAt o_slowAt o_fuelAt o_ringAt o_sums H locs hP hD hS ls hl hw
        unfold f_X7_count_B104 at hw
        refine lv_iadd hx hb dX7_count_104 ?_
        refine lv_topi (fun x_3 ex_3 => ?_)
        replace hw := okN ex_3 hw
        clear ex_3
        refine lv_istore_n (lv' := [(2, .int x_3), (0, .ref h_o), (1, .int v1), (3, .int v3)]) hx hb dX7_count_105 rfl hl (by decide) rfl (fun ls hl => ?_)
        obtain ⟨x_4, ex_4⟩ : ∃ y : Int32, y = v3 + 1 := ⟨_, rfl⟩
        replace hw := okN ex_4 hw
        refine lv_iinc (v := x_4) (lv' := [(3, .int x_4), (2, .int x_3), (0, .ref h_o), (1, .int v1)]) hx hb dX7_count_106 hl (k := 3) rfl (by rw [ex_4]; rfl) (by decide) rfl (fun ls hl => ?_)
        clear ex_4
        refine lv_goto (tgt := 81) hx hb dX7_count_109 (by decide) ?_
        exact ih81 v1 x_3 x_4 o_level o_noRings o_noTones o_noFuel o_all o_noPieces o_noDrags o_code o_cellAt o_courseAt o_paceAt o_turnsAt o_slowAt o_fuelAt o_ringAt o_sums _ _ hP hD hS _ (lv_sub hl [2, 3, 1, 0] rfl) hw
      intro v1 v2 v3 o_level o_noRings o_noTones o_noFuel o_all o_noPieces o_noDrags o_code o_cellAt o_courseAt o_paceAt o_turnsAt o_slowAt o_fuelAt o_ringAt o_sums H locs hP hD hS ls hl hw
      replace hw : okP (f_X7_count_L81b (f_X7_count_L81 n81) v1 v2 v3 o_level o_noRings o_noTones o_noFuel o_pieces o_drags o_all o_noPieces o_noDrags o_sets o_ringFar o_ringTone o_currents o_warmths o_code o_cellAt o_courseAt o_paceAt o_turnsAt o_slowAt o_fuelAt o_ringAt o_pieceParts o_dragCell o_dragBy o_sums) post := hw
      unfold f_X7_count_L81b at hw
      refine lv_iload_n hx hb dX7_count_81 rfl (lv_at hl 3 rfl) ?_
      refine lv_bipush (v := 100) hx hb dX7_count_82 (by decide) ?_
      refine lv_icmp_ge (tgt := 112) hx hb dX7_count_84 (by decide) (fun c_5 => ?_) (fun c_5 => ?_)
      · replace hw := okT hw c_5
        clear c_5
        exact w112 v1 v2 o_level o_noRings o_noTones o_noFuel o_all o_noPieces o_noDrags o_code o_cellAt o_courseAt o_paceAt o_turnsAt o_slowAt o_fuelAt o_ringAt o_sums _ _ hP hD hS _ (lv_sub hl [0, 1, 2] rfl) hw
      · replace hw := okF hw c_5
        clear c_5
        refine lv_iload_n hx hb dX7_count_87 rfl (lv_at hl 2 rfl) ?_
        refine lv_aload_n hx hb dX7_count_88 rfl (lv_at hl 0 rfl) ?_
        refine va_get (D := (dC, dI)) (ci := 7) (v := .ref a_o_sums) (C := RX7) (T := TX7) (N := 42) hx hb hts hi7 hown hK hP 0 rfl rfl 30 (by decide) hq3 (fun _ h9 => h9) rfl dX7_count_89 ?_
        refine lv_iload_n hx hb dX7_count_92 rfl (lv_at hl 3 rfl) ?_
        obtain ⟨h_6, hw⟩ := okC hw
        refine va_lald (i := v3) hx hb hK hP 17 1 rfl rfl h_6 dX7_count_93 ?_
        refine lv_lconst (v := 0) hx hb dX7_count_94 (by decide) ?_
        refine W.lcmp hx hb dX7_count_95 ?_
        refine lv_if_le (tgt := 103) hx hb dX7_count_96 (by decide) (fun c_7 => ?_) (fun c_7 => ?_)
        · replace hw := okT hw c_7
          clear c_7
          refine lv_iconst (v := 0) hx hb dX7_count_103 (by decide) ?_
          exact w104 v1 v3 0 v2 o_level o_noRings o_noTones o_noFuel o_all o_noPieces o_noDrags o_code o_cellAt o_courseAt o_paceAt o_turnsAt o_slowAt o_fuelAt o_ringAt o_sums _ _ hP hD hS _ (lv_sub hl [0, 1, 3] rfl) hw
        · replace hw := okF hw c_7
          clear c_7
          refine lv_iconst (v := 1) hx hb dX7_count_99 (by decide) ?_
          refine lv_goto (tgt := 104) hx hb dX7_count_100 (by decide) ?_
          exact w104 v1 v3 1 v2 o_level o_noRings o_noTones o_noFuel o_all o_noPieces o_noDrags o_code o_cellAt o_courseAt o_paceAt o_turnsAt o_slowAt o_fuelAt o_ringAt o_sums _ _ hP hD hS _ (lv_sub hl [0, 1, 3] rfl) hw
  have w70 : ∀ (v1 : Int32) (v2 : Int32) (o_level : Int32) (o_noRings : Int32) (o_noTones : Int32) (o_noFuel : Int32) (o_all : Int64) (o_noPieces : Int32) (o_noDrags : Int32) (o_code : Nat → Int32) (o_cellAt : Nat → Int32) (o_courseAt : Nat → Int32) (o_paceAt : Nat → Int32) (o_turnsAt : Nat → Int32) (o_slowAt : Nat → Int32) (o_fuelAt : Nat → Int32) (o_ringAt : Nat → Int32) (o_sums : Nat → Int64) (H : Heap) (locs : List Loc), va_P (dC, dI) vwCl (W_X7_count cyI cyJ cyO h_o a_o_sets a_o_ringFar a_o_ringTone a_o_currents a_o_warmths a_o_depths a_o_tape a_o_readFar a_o_readTone a_o_readSea a_o_code a_o_cellAt a_o_courseAt a_o_paceAt a_o_turnsAt a_o_slowAt a_o_fuelAt a_o_ringAt a_o_pieceParts a_o_dragCell a_o_dragBy a_o_sums a_o_shares a_o_keptFar a_o_image a_o_lanes a_o_sizes a_o_items a_o_movedItems o_taped o_at o_wrong o_level o_noRings o_noTones o_noFuel o_pieces o_drags o_all o_noPieces o_noDrags o_kept o_sets o_ringFar o_ringTone o_currents o_warmths o_code o_cellAt o_courseAt o_paceAt o_turnsAt o_slowAt o_fuelAt o_ringAt o_pieceParts o_dragCell o_dragBy o_sums) H → va_D A (W_X7_count cyI cyJ cyO h_o a_o_sets a_o_ringFar a_o_ringTone a_o_currents a_o_warmths a_o_depths a_o_tape a_o_readFar a_o_readTone a_o_readSea a_o_code a_o_cellAt a_o_courseAt a_o_paceAt a_o_turnsAt a_o_slowAt a_o_fuelAt a_o_ringAt a_o_pieceParts a_o_dragCell a_o_dragBy a_o_sums a_o_shares a_o_keptFar a_o_image a_o_lanes a_o_sizes a_o_items a_o_movedItems o_taped o_at o_wrong o_level o_noRings o_noTones o_noFuel o_pieces o_drags o_all o_noPieces o_noDrags o_kept o_sets o_ringFar o_ringTone o_currents o_warmths o_code o_cellAt o_courseAt o_paceAt o_turnsAt o_slowAt o_fuelAt o_ringAt o_pieceParts o_dragCell o_dragBy o_sums) → va_S A s.heap H locs → ∀ (ls : Array Slot), lv_has ls 4 [(0, .ref h_o), (1, .int v1), (2, .int v2)] → okP (f_X7_count_B70 v1 v2 o_level o_noRings o_noTones o_noFuel o_pieces o_drags o_all o_noPieces o_noDrags o_sets o_ringFar o_ringTone o_currents o_warmths o_code o_cellAt o_courseAt o_paceAt o_turnsAt o_slowAt o_fuelAt o_ringAt o_pieceParts o_dragCell o_dragBy o_sums) post → W p l e (headSpec wsX7_count rm_X7_count).room s m ([.ref h_o, .int x1] : List Value).toArray below meth c H locs 0 0 Q (F0 m 70 ls []) := by
    intro v1 v2 o_level o_noRings o_noTones o_noFuel o_all o_noPieces o_noDrags o_code o_cellAt o_courseAt o_paceAt o_turnsAt o_slowAt o_fuelAt o_ringAt o_sums H locs hP hD hS ls hl hw
    unfold f_X7_count_B70 at hw
    refine lv_iload_n hx hb dX7_count_70 rfl (lv_at hl 1 rfl) ?_
    refine lv_iconst (v := 4) hx hb dX7_count_71 (by decide) ?_
    refine lv_icmp_ne (tgt := 112) hx hb dX7_count_72 (by decide) (fun c_8 => ?_) (fun c_8 => ?_)
    · replace hw := okF hw c_8
      clear c_8
      exact w112 v1 v2 o_level o_noRings o_noTones o_noFuel o_all o_noPieces o_noDrags o_code o_cellAt o_courseAt o_paceAt o_turnsAt o_slowAt o_fuelAt o_ringAt o_sums _ _ hP hD hS _ (lv_sub hl [0, 1, 2] rfl) hw
    · replace hw := okT hw c_8
      clear c_8
      refine lv_aload_n hx hb dX7_count_75 rfl (lv_at hl 0 rfl) ?_
      have hPc := hP.sub (ws' := (W_X7_endsAsTold cyI cyJ cyO h_o a_o_sets a_o_ringFar a_o_ringTone a_o_currents a_o_warmths a_o_depths a_o_tape a_o_readFar a_o_readTone a_o_readSea a_o_code a_o_cellAt a_o_courseAt a_o_paceAt a_o_turnsAt a_o_slowAt a_o_fuelAt a_o_ringAt a_o_pieceParts a_o_dragCell a_o_dragBy a_o_sums a_o_shares a_o_keptFar a_o_image a_o_lanes a_o_sizes a_o_items a_o_movedItems o_taped o_at o_wrong o_level o_noRings o_noTones o_noFuel o_pieces o_drags o_all o_noPieces o_noDrags o_kept o_sets o_ringFar o_ringTone o_currents o_warmths o_code o_cellAt o_courseAt o_paceAt o_turnsAt o_slowAt o_fuelAt o_ringAt o_pieceParts o_dragCell o_dragBy o_sums)) [0, 1, 2, 3, 4, 5, 6, 7, 8, 9, 10, 11, 12, 13, 14, 15, 16, 17] rfl
      have hDc := hD.sub (ws' := (W_X7_endsAsTold cyI cyJ cyO h_o a_o_sets a_o_ringFar a_o_ringTone a_o_currents a_o_warmths a_o_depths a_o_tape a_o_readFar a_o_readTone a_o_readSea a_o_code a_o_cellAt a_o_courseAt a_o_paceAt a_o_turnsAt a_o_slowAt a_o_fuelAt a_o_ringAt a_o_pieceParts a_o_dragCell a_o_dragBy a_o_sums a_o_shares a_o_keptFar a_o_image a_o_lanes a_o_sizes a_o_items a_o_movedItems o_taped o_at o_wrong o_level o_noRings o_noTones o_noFuel o_pieces o_drags o_all o_noPieces o_noDrags o_kept o_sets o_ringFar o_ringTone o_currents o_warmths o_code o_cellAt o_courseAt o_paceAt o_turnsAt o_slowAt o_fuelAt o_ringAt o_pieceParts o_dragCell o_dragBy o_sums)) [0, 1, 2, 3, 4, 5, 6, 7, 8, 9, 10, 11, 12, 13, 14, 15, 16, 17] (by decide +kernel) rfl
      have hFc := va_free (wc := (W_X7_endsAsTold cyI cyJ cyO h_o a_o_sets a_o_ringFar a_o_ringTone a_o_currents a_o_warmths a_o_depths a_o_tape a_o_readFar a_o_readTone a_o_readSea a_o_code a_o_cellAt a_o_courseAt a_o_paceAt a_o_turnsAt a_o_slowAt a_o_fuelAt a_o_ringAt a_o_pieceParts a_o_dragCell a_o_dragBy a_o_sums a_o_shares a_o_keptFar a_o_image a_o_lanes a_o_sizes a_o_items a_o_movedItems o_taped o_at o_wrong o_level o_noRings o_noTones o_noFuel o_pieces o_drags o_all o_noPieces o_noDrags o_kept o_sets o_ringFar o_ringTone o_currents o_warmths o_code o_cellAt o_courseAt o_paceAt o_turnsAt o_slowAt o_fuelAt o_ringAt o_pieceParts o_dragCell o_dragBy o_sums)) hD hS hA [0, 1, 2, 3, 4, 5, 6, 7, 8, 9, 10, 11, 12, 13, 14, 15, 16, 17] rfl
      refine kc_v (wr := []) (va_runV (As := []) (rest := []) ⟨hx, hb, hml, hown, hts⟩ (c_X7_endsAsTold l dC dI cyI cyJ cyO H.size h_o a_o_sets a_o_ringFar a_o_ringTone a_o_currents a_o_warmths a_o_depths a_o_tape a_o_readFar a_o_readTone a_o_readSea a_o_code a_o_cellAt a_o_courseAt a_o_paceAt a_o_turnsAt a_o_slowAt a_o_fuelAt a_o_ringAt a_o_pieceParts a_o_dragCell a_o_dragBy a_o_sums a_o_shares a_o_keptFar a_o_image a_o_lanes a_o_sizes a_o_items a_o_movedItems o_taped o_at o_wrong o_level o_noRings o_noTones o_noFuel o_pieces o_drags o_all o_noPieces o_noDrags o_kept o_sets o_ringFar o_ringTone o_currents o_warmths o_code o_cellAt o_courseAt o_paceAt o_turnsAt o_slowAt o_fuelAt o_ringAt o_pieceParts o_dragCell o_dragBy o_sums _ (okb16 hw)) (cwV 0 hts (gdV (fun w h => List.mem_cons_of_mem _ h) q_991 q_993 qs_38 q_8 q_994) rfl rfl rfl (by decide +kernel) ⟨Nat.le_of_ble_eq_true rfl, Nat.le_of_ble_eq_true rfl⟩) ⟨(kpre zN_ok hK hPc hDc trivial hS hFc).1, va_recv hK hP (ci := 7) (q0 := 0) rfl rfl, (kpre zN_ok hK hPc hDc trivial hS hFc).2⟩ rfl rfl hl.1 rfl (lv_room (Nat.le_of_ble_eq_true rfl)) dX7_count_76 ⟨Nat.le_of_ble_eq_true rfl, Nat.le_of_ble_eq_true rfl⟩) hP hD hS hFc [0, 1, 2, 3, 4, 5, 6, 7, 8, 9, 10, 11, 12, 13, 14, 15, 16, 17] [] rfl rfl (by decide +kernel) (by decide +kernel) (fun u H locs hw hP hD hS => ?_)
      obtain ⟨w_9, w_10, w_11, w_12, w_13, w_14, w_15, w_16, w_17, w_18, w_19, w_20, w_21, w_22, w_23, w_24⟩ := u
      try dsimp only at hw
      have hP : va_P (dC, dI) vwCl (W_X7_count cyI cyJ cyO h_o a_o_sets a_o_ringFar a_o_ringTone a_o_currents a_o_warmths a_o_depths a_o_tape a_o_readFar a_o_readTone a_o_readSea a_o_code a_o_cellAt a_o_courseAt a_o_paceAt a_o_turnsAt a_o_slowAt a_o_fuelAt a_o_ringAt a_o_pieceParts a_o_dragCell a_o_dragBy a_o_sums a_o_shares a_o_keptFar a_o_image a_o_lanes a_o_sizes a_o_items a_o_movedItems o_taped o_at o_wrong w_9 w_10 w_11 w_12 o_pieces o_drags w_13 w_14 w_15 o_kept o_sets o_ringFar o_ringTone o_currents o_warmths w_16 w_17 w_18 w_19 w_20 w_21 w_22 w_23 o_pieceParts o_dragCell o_dragBy w_24) H := hP.sub [0, 1, 2, 3, 4, 5, 6, 7, 8, 9, 10, 11, 12, 13, 14, 15, 16, 17] rfl
      have hD : va_D A (W_X7_count cyI cyJ cyO h_o a_o_sets a_o_ringFar a_o_ringTone a_o_currents a_o_warmths a_o_depths a_o_tape a_o_readFar a_o_readTone a_o_readSea a_o_code a_o_cellAt a_o_courseAt a_o_paceAt a_o_turnsAt a_o_slowAt a_o_fuelAt a_o_ringAt a_o_pieceParts a_o_dragCell a_o_dragBy a_o_sums a_o_shares a_o_keptFar a_o_image a_o_lanes a_o_sizes a_o_items a_o_movedItems o_taped o_at o_wrong w_9 w_10 w_11 w_12 o_pieces o_drags w_13 w_14 w_15 o_kept o_sets o_ringFar o_ringTone o_currents o_warmths w_16 w_17 w_18 w_19 w_20 w_21 w_22 w_23 o_pieceParts o_dragCell o_dragBy w_24) := hD.sub [0, 1, 2, 3, 4, 5, 6, 7, 8, 9, 10, 11, 12, 13, 14, 15, 16, 17] (by decide +kernel) rfl
      clear hPc hDc hFc
      refine lv_iconst (v := 0) hx hb dX7_count_79 (by decide) ?_
      refine lv_istore_n (lv' := [(3, .int 0), (0, .ref h_o), (1, .int v1), (2, .int v2)]) hx hb dX7_count_80 rfl hl (by decide) rfl (fun ls hl => ?_)
      exact w81 FU v1 v2 0 w_9 w_10 w_11 w_12 w_13 w_14 w_15 w_16 w_17 w_18 w_19 w_20 w_21 w_22 w_23 w_24 _ _ hP hD hS _ (lv_sub hl [1, 2, 3, 0] rfl) hw
  have w18 : ∀ (n : Nat), ∀ (v1 : Int32) (v2 : Int32) (v3 : Int32) (o_level : Int32) (o_noRings : Int32) (o_noTones : Int32) (o_noFuel : Int32) (o_all : Int64) (o_noPieces : Int32) (o_noDrags : Int32) (o_code : Nat → Int32) (o_cellAt : Nat → Int32) (o_courseAt : Nat → Int32) (o_paceAt : Nat → Int32) (o_turnsAt : Nat → Int32) (o_slowAt : Nat → Int32) (o_fuelAt : Nat → Int32) (o_ringAt : Nat → Int32) (o_sums : Nat → Int64) (H : Heap) (locs : List Loc), va_P (dC, dI) vwCl (W_X7_count cyI cyJ cyO h_o a_o_sets a_o_ringFar a_o_ringTone a_o_currents a_o_warmths a_o_depths a_o_tape a_o_readFar a_o_readTone a_o_readSea a_o_code a_o_cellAt a_o_courseAt a_o_paceAt a_o_turnsAt a_o_slowAt a_o_fuelAt a_o_ringAt a_o_pieceParts a_o_dragCell a_o_dragBy a_o_sums a_o_shares a_o_keptFar a_o_image a_o_lanes a_o_sizes a_o_items a_o_movedItems o_taped o_at o_wrong o_level o_noRings o_noTones o_noFuel o_pieces o_drags o_all o_noPieces o_noDrags o_kept o_sets o_ringFar o_ringTone o_currents o_warmths o_code o_cellAt o_courseAt o_paceAt o_turnsAt o_slowAt o_fuelAt o_ringAt o_pieceParts o_dragCell o_dragBy o_sums) H → va_D A (W_X7_count cyI cyJ cyO h_o a_o_sets a_o_ringFar a_o_ringTone a_o_currents a_o_warmths a_o_depths a_o_tape a_o_readFar a_o_readTone a_o_readSea a_o_code a_o_cellAt a_o_courseAt a_o_paceAt a_o_turnsAt a_o_slowAt a_o_fuelAt a_o_ringAt a_o_pieceParts a_o_dragCell a_o_dragBy a_o_sums a_o_shares a_o_keptFar a_o_image a_o_lanes a_o_sizes a_o_items a_o_movedItems o_taped o_at o_wrong o_level o_noRings o_noTones o_noFuel o_pieces o_drags o_all o_noPieces o_noDrags o_kept o_sets o_ringFar o_ringTone o_currents o_warmths o_code o_cellAt o_courseAt o_paceAt o_turnsAt o_slowAt o_fuelAt o_ringAt o_pieceParts o_dragCell o_dragBy o_sums) → va_S A s.heap H locs → ∀ (ls : Array Slot), lv_has ls 4 [(0, .ref h_o), (1, .int v1), (2, .int v2), (3, .int v3)] → okP (f_X7_count_L18 n v1 v2 v3 o_level o_noRings o_noTones o_noFuel o_pieces o_drags o_all o_noPieces o_noDrags o_sets o_ringFar o_ringTone o_currents o_warmths o_code o_cellAt o_courseAt o_paceAt o_turnsAt o_slowAt o_fuelAt o_ringAt o_pieceParts o_dragCell o_dragBy o_sums) post → W p l e (headSpec wsX7_count rm_X7_count).room s m ([.ref h_o, .int x1] : List Value).toArray below meth c H locs 0 0 Q (F0 m 18 ls []) := by
    intro n
    induction n with
    | zero =>
      intro v1 v2 v3 o_level o_noRings o_noTones o_noFuel o_all o_noPieces o_noDrags o_code o_cellAt o_courseAt o_paceAt o_turnsAt o_slowAt o_fuelAt o_ringAt o_sums H locs hP hD hS ls hl hw
      exact (ok0 hw).elim
    | succ n18 ih18 =>
      have w62 : ∀ (v1 : Int32) (v3 : Int32) (y0 : Int32) (y1 : Int32) (o_level : Int32) (o_noRings : Int32) (o_noTones : Int32) (o_noFuel : Int32) (o_all : Int64) (o_noPieces : Int32) (o_noDrags : Int32) (o_code : Nat → Int32) (o_cellAt : Nat → Int32) (o_courseAt : Nat → Int32) (o_paceAt : Nat → Int32) (o_turnsAt : Nat → Int32) (o_slowAt : Nat → Int32) (o_fuelAt : Nat → Int32) (o_ringAt : Nat → Int32) (o_sums : Nat → Int64) (H : Heap) (locs : List Loc), va_P (dC, dI) vwCl (W_X7_count cyI cyJ cyO h_o a_o_sets a_o_ringFar a_o_ringTone a_o_currents a_o_warmths a_o_depths a_o_tape a_o_readFar a_o_readTone a_o_readSea a_o_code a_o_cellAt a_o_courseAt a_o_paceAt a_o_turnsAt a_o_slowAt a_o_fuelAt a_o_ringAt a_o_pieceParts a_o_dragCell a_o_dragBy a_o_sums a_o_shares a_o_keptFar a_o_image a_o_lanes a_o_sizes a_o_items a_o_movedItems o_taped o_at o_wrong o_level o_noRings o_noTones o_noFuel o_pieces o_drags o_all o_noPieces o_noDrags o_kept o_sets o_ringFar o_ringTone o_currents o_warmths o_code o_cellAt o_courseAt o_paceAt o_turnsAt o_slowAt o_fuelAt o_ringAt o_pieceParts o_dragCell o_dragBy o_sums) H → va_D A (W_X7_count cyI cyJ cyO h_o a_o_sets a_o_ringFar a_o_ringTone a_o_currents a_o_warmths a_o_depths a_o_tape a_o_readFar a_o_readTone a_o_readSea a_o_code a_o_cellAt a_o_courseAt a_o_paceAt a_o_turnsAt a_o_slowAt a_o_fuelAt a_o_ringAt a_o_pieceParts a_o_dragCell a_o_dragBy a_o_sums a_o_shares a_o_keptFar a_o_image a_o_lanes a_o_sizes a_o_items a_o_movedItems o_taped o_at o_wrong o_level o_noRings o_noTones o_noFuel o_pieces o_drags o_all o_noPieces o_noDrags o_kept o_sets o_ringFar o_ringTone o_currents o_warmths o_code o_cellAt o_courseAt o_paceAt o_turnsAt o_slowAt o_fuelAt o_ringAt o_pieceParts o_dragCell o_dragBy o_sums) → va_S A s.heap H locs → ∀ (ls : Array Slot), lv_has ls 4 [(0, .ref h_o), (1, .int v1), (3, .int v3)] → okP (f_X7_count_B62 (f_X7_count_L18 n18) v1 v3 y0 y1 o_level o_noRings o_noTones o_noFuel o_pieces o_drags o_all o_noPieces o_noDrags o_sets o_ringFar o_ringTone o_currents o_warmths o_code o_cellAt o_courseAt o_paceAt o_turnsAt o_slowAt o_fuelAt o_ringAt o_pieceParts o_dragCell o_dragBy o_sums) post → W p l e (headSpec wsX7_count rm_X7_count).room s m ([.ref h_o, .int x1] : List Value).toArray below meth c H locs 0 0 Q (F0 m 62 ls [.int y0, .int y1]) := by
        intro v1 v3 y0 y1 o_level o_noRings o_noTones o_noFuel o_all o_noPieces o_noDrags o_code o_cellAt o_courseAt o_paceAt o_turnsAt o_slowAt o_fuelAt o_ringAt o_sums H locs hP hD hS ls hl hw
        unfold f_X7_count_B62 at hw
        refine lv_iadd hx hb dX7_count_62 ?_
        refine lv_topi (fun x_25 ex_25 => ?_)
        replace hw := okN ex_25 hw
        clear ex_25
        refine lv_istore_n (lv' := [(2, .int x_25), (0, .ref h_o), (1, .int v1), (3, .int v3)]) hx hb dX7_count_63 rfl hl (by decide) rfl (fun ls hl => ?_)
        obtain ⟨x_26, ex_26⟩ : ∃ y : Int32, y = v3 + 1 := ⟨_, rfl⟩
        replace hw := okN ex_26 hw
        refine lv_iinc (v := x_26) (lv' := [(3, .int x_26), (2, .int x_25), (0, .ref h_o), (1, .int v1)]) hx hb dX7_count_64 hl (k := 3) rfl (by rw [ex_26]; rfl) (by decide) rfl (fun ls hl => ?_)
        clear ex_26
        refine lv_goto (tgt := 18) hx hb dX7_count_67 (by decide) ?_
        exact ih18 v1 x_25 x_26 o_level o_noRings o_noTones o_noFuel o_all o_noPieces o_noDrags o_code o_cellAt o_courseAt o_paceAt o_turnsAt o_slowAt o_fuelAt o_ringAt o_sums _ _ hP hD hS _ (lv_sub hl [2, 3, 1, 0] rfl) hw
      have w61 : ∀ (v1 : Int32) (v3 : Int32) (y0 : Int32) (o_level : Int32) (o_noRings : Int32) (o_noTones : Int32) (o_noFuel : Int32) (o_all : Int64) (o_noPieces : Int32) (o_noDrags : Int32) (o_code : Nat → Int32) (o_cellAt : Nat → Int32) (o_courseAt : Nat → Int32) (o_paceAt : Nat → Int32) (o_turnsAt : Nat → Int32) (o_slowAt : Nat → Int32) (o_fuelAt : Nat → Int32) (o_ringAt : Nat → Int32) (o_sums : Nat → Int64) (H : Heap) (locs : List Loc), va_P (dC, dI) vwCl (W_X7_count cyI cyJ cyO h_o a_o_sets a_o_ringFar a_o_ringTone a_o_currents a_o_warmths a_o_depths a_o_tape a_o_readFar a_o_readTone a_o_readSea a_o_code a_o_cellAt a_o_courseAt a_o_paceAt a_o_turnsAt a_o_slowAt a_o_fuelAt a_o_ringAt a_o_pieceParts a_o_dragCell a_o_dragBy a_o_sums a_o_shares a_o_keptFar a_o_image a_o_lanes a_o_sizes a_o_items a_o_movedItems o_taped o_at o_wrong o_level o_noRings o_noTones o_noFuel o_pieces o_drags o_all o_noPieces o_noDrags o_kept o_sets o_ringFar o_ringTone o_currents o_warmths o_code o_cellAt o_courseAt o_paceAt o_turnsAt o_slowAt o_fuelAt o_ringAt o_pieceParts o_dragCell o_dragBy o_sums) H → va_D A (W_X7_count cyI cyJ cyO h_o a_o_sets a_o_ringFar a_o_ringTone a_o_currents a_o_warmths a_o_depths a_o_tape a_o_readFar a_o_readTone a_o_readSea a_o_code a_o_cellAt a_o_courseAt a_o_paceAt a_o_turnsAt a_o_slowAt a_o_fuelAt a_o_ringAt a_o_pieceParts a_o_dragCell a_o_dragBy a_o_sums a_o_shares a_o_keptFar a_o_image a_o_lanes a_o_sizes a_o_items a_o_movedItems o_taped o_at o_wrong o_level o_noRings o_noTones o_noFuel o_pieces o_drags o_all o_noPieces o_noDrags o_kept o_sets o_ringFar o_ringTone o_currents o_warmths o_code o_cellAt o_courseAt o_paceAt o_turnsAt o_slowAt o_fuelAt o_ringAt o_pieceParts o_dragCell o_dragBy o_sums) → va_S A s.heap H locs → ∀ (ls : Array Slot), lv_has ls 4 [(0, .ref h_o), (1, .int v1), (3, .int v3)] → okP (f_X7_count_B61 (f_X7_count_L18 n18) v1 v3 y0 o_level o_noRings o_noTones o_noFuel o_pieces o_drags o_all o_noPieces o_noDrags o_sets o_ringFar o_ringTone o_currents o_warmths o_code o_cellAt o_courseAt o_paceAt o_turnsAt o_slowAt o_fuelAt o_ringAt o_pieceParts o_dragCell o_dragBy o_sums) post → W p l e (headSpec wsX7_count rm_X7_count).room s m ([.ref h_o, .int x1] : List Value).toArray below meth c H locs 0 0 Q (F0 m 61 ls [.int y0]) := by
        intro v1 v3 y0 o_level o_noRings o_noTones o_noFuel o_all o_noPieces o_noDrags o_code o_cellAt o_courseAt o_paceAt o_turnsAt o_slowAt o_fuelAt o_ringAt o_sums H locs hP hD hS ls hl hw
        unfold f_X7_count_B61 at hw
        refine lv_iconst (v := 0) hx hb dX7_count_61 (by decide) ?_
        exact w62 v1 v3 0 y0 o_level o_noRings o_noTones o_noFuel o_all o_noPieces o_noDrags o_code o_cellAt o_courseAt o_paceAt o_turnsAt o_slowAt o_fuelAt o_ringAt o_sums _ _ hP hD hS _ (lv_sub hl [0, 1, 2] rfl) hw
      have w57 : ∀ (v1 : Int32) (v3 : Int32) (y0 : Int32) (o_level : Int32) (o_noRings : Int32) (o_noTones : Int32) (o_noFuel : Int32) (o_all : Int64) (o_noPieces : Int32) (o_noDrags : Int32) (o_code : Nat → Int32) (o_cellAt : Nat → Int32) (o_courseAt : Nat → Int32) (o_paceAt : Nat → Int32) (o_turnsAt : Nat → Int32) (o_slowAt : Nat → Int32) (o_fuelAt : Nat → Int32) (o_ringAt : Nat → Int32) (o_sums : Nat → Int64) (H : Heap) (locs : List Loc), va_P (dC, dI) vwCl (W_X7_count cyI cyJ cyO h_o a_o_sets a_o_ringFar a_o_ringTone a_o_currents a_o_warmths a_o_depths a_o_tape a_o_readFar a_o_readTone a_o_readSea a_o_code a_o_cellAt a_o_courseAt a_o_paceAt a_o_turnsAt a_o_slowAt a_o_fuelAt a_o_ringAt a_o_pieceParts a_o_dragCell a_o_dragBy a_o_sums a_o_shares a_o_keptFar a_o_image a_o_lanes a_o_sizes a_o_items a_o_movedItems o_taped o_at o_wrong o_level o_noRings o_noTones o_noFuel o_pieces o_drags o_all o_noPieces o_noDrags o_kept o_sets o_ringFar o_ringTone o_currents o_warmths o_code o_cellAt o_courseAt o_paceAt o_turnsAt o_slowAt o_fuelAt o_ringAt o_pieceParts o_dragCell o_dragBy o_sums) H → va_D A (W_X7_count cyI cyJ cyO h_o a_o_sets a_o_ringFar a_o_ringTone a_o_currents a_o_warmths a_o_depths a_o_tape a_o_readFar a_o_readTone a_o_readSea a_o_code a_o_cellAt a_o_courseAt a_o_paceAt a_o_turnsAt a_o_slowAt a_o_fuelAt a_o_ringAt a_o_pieceParts a_o_dragCell a_o_dragBy a_o_sums a_o_shares a_o_keptFar a_o_image a_o_lanes a_o_sizes a_o_items a_o_movedItems o_taped o_at o_wrong o_level o_noRings o_noTones o_noFuel o_pieces o_drags o_all o_noPieces o_noDrags o_kept o_sets o_ringFar o_ringTone o_currents o_warmths o_code o_cellAt o_courseAt o_paceAt o_turnsAt o_slowAt o_fuelAt o_ringAt o_pieceParts o_dragCell o_dragBy o_sums) → va_S A s.heap H locs → ∀ (ls : Array Slot), lv_has ls 4 [(0, .ref h_o), (1, .int v1), (3, .int v3)] → okP (f_X7_count_B57 (f_X7_count_L18 n18) v1 v3 y0 o_level o_noRings o_noTones o_noFuel o_pieces o_drags o_all o_noPieces o_noDrags o_sets o_ringFar o_ringTone o_currents o_warmths o_code o_cellAt o_courseAt o_paceAt o_turnsAt o_slowAt o_fuelAt o_ringAt o_pieceParts o_dragCell o_dragBy o_sums) post → W p l e (headSpec wsX7_count rm_X7_count).room s m ([.ref h_o, .int x1] : List Value).toArray below meth c H locs 0 0 Q (F0 m 57 ls [.int y0]) := by
        intro v1 v3 y0 o_level o_noRings o_noTones o_noFuel o_all o_noPieces o_noDrags o_code o_cellAt o_courseAt o_paceAt o_turnsAt o_slowAt o_fuelAt o_ringAt o_sums H locs hP hD hS ls hl hw
        unfold f_X7_count_B57 at hw
        refine lv_iconst (v := 1) hx hb dX7_count_57 (by decide) ?_
        refine lv_goto (tgt := 62) hx hb dX7_count_58 (by decide) ?_
        exact w62 v1 v3 1 y0 o_level o_noRings o_noTones o_noFuel o_all o_noPieces o_noDrags o_code o_cellAt o_courseAt o_paceAt o_turnsAt o_slowAt o_fuelAt o_ringAt o_sums _ _ hP hD hS _ (lv_sub hl [0, 1, 2] rfl) hw
      have w43 : ∀ (v1 : Int32) (v3 : Int32) (y0 : Int32) (o_level : Int32) (o_noRings : Int32) (o_noTones : Int32) (o_noFuel : Int32) (o_all : Int64) (o_noPieces : Int32) (o_noDrags : Int32) (o_code : Nat → Int32) (o_cellAt : Nat → Int32) (o_courseAt : Nat → Int32) (o_paceAt : Nat → Int32) (o_turnsAt : Nat → Int32) (o_slowAt : Nat → Int32) (o_fuelAt : Nat → Int32) (o_ringAt : Nat → Int32) (o_sums : Nat → Int64) (H : Heap) (locs : List Loc), va_P (dC, dI) vwCl (W_X7_count cyI cyJ cyO h_o a_o_sets a_o_ringFar a_o_ringTone a_o_currents a_o_warmths a_o_depths a_o_tape a_o_readFar a_o_readTone a_o_readSea a_o_code a_o_cellAt a_o_courseAt a_o_paceAt a_o_turnsAt a_o_slowAt a_o_fuelAt a_o_ringAt a_o_pieceParts a_o_dragCell a_o_dragBy a_o_sums a_o_shares a_o_keptFar a_o_image a_o_lanes a_o_sizes a_o_items a_o_movedItems o_taped o_at o_wrong o_level o_noRings o_noTones o_noFuel o_pieces o_drags o_all o_noPieces o_noDrags o_kept o_sets o_ringFar o_ringTone o_currents o_warmths o_code o_cellAt o_courseAt o_paceAt o_turnsAt o_slowAt o_fuelAt o_ringAt o_pieceParts o_dragCell o_dragBy o_sums) H → va_D A (W_X7_count cyI cyJ cyO h_o a_o_sets a_o_ringFar a_o_ringTone a_o_currents a_o_warmths a_o_depths a_o_tape a_o_readFar a_o_readTone a_o_readSea a_o_code a_o_cellAt a_o_courseAt a_o_paceAt a_o_turnsAt a_o_slowAt a_o_fuelAt a_o_ringAt a_o_pieceParts a_o_dragCell a_o_dragBy a_o_sums a_o_shares a_o_keptFar a_o_image a_o_lanes a_o_sizes a_o_items a_o_movedItems o_taped o_at o_wrong o_level o_noRings o_noTones o_noFuel o_pieces o_drags o_all o_noPieces o_noDrags o_kept o_sets o_ringFar o_ringTone o_currents o_warmths o_code o_cellAt o_courseAt o_paceAt o_turnsAt o_slowAt o_fuelAt o_ringAt o_pieceParts o_dragCell o_dragBy o_sums) → va_S A s.heap H locs → ∀ (ls : Array Slot), lv_has ls 4 [(0, .ref h_o), (1, .int v1), (3, .int v3)] → okP (f_X7_count_B43 (f_X7_count_L18 n18) v1 v3 y0 o_level o_noRings o_noTones o_noFuel o_pieces o_drags o_all o_noPieces o_noDrags o_sets o_ringFar o_ringTone o_currents o_warmths o_code o_cellAt o_courseAt o_paceAt o_turnsAt o_slowAt o_fuelAt o_ringAt o_pieceParts o_dragCell o_dragBy o_sums) post → W p l e (headSpec wsX7_count rm_X7_count).room s m ([.ref h_o, .int x1] : List Value).toArray below meth c H locs 0 0 Q (F0 m 43 ls [.int y0]) := by
        intro v1 v3 y0 o_level o_noRings o_noTones o_noFuel o_all o_noPieces o_noDrags o_code o_cellAt o_courseAt o_paceAt o_turnsAt o_slowAt o_fuelAt o_ringAt o_sums H locs hP hD hS ls hl hw
        unfold f_X7_count_B43 at hw
        refine lv_iload_n hx hb dX7_count_43 rfl (lv_at hl 1 rfl) ?_
        refine lv_iconst (v := 1) hx hb dX7_count_44 (by decide) ?_
        refine lv_icmp_ne (tgt := 61) hx hb dX7_count_45 (by decide) (fun c_27 => ?_) (fun c_27 => ?_)
        · replace hw := okF hw c_27
          clear c_27
          exact w61 v1 v3 y0 o_level o_noRings o_noTones o_noFuel o_all o_noPieces o_noDrags o_code o_cellAt o_courseAt o_paceAt o_turnsAt o_slowAt o_fuelAt o_ringAt o_sums _ _ hP hD hS _ (lv_sub hl [0, 1, 2] rfl) hw
        · replace hw := okT hw c_27
          clear c_27
          refine lv_aload_n hx hb dX7_count_48 rfl (lv_at hl 0 rfl) ?_
          refine va_get (D := (dC, dI)) (ci := 7) (v := .ref a_o_ringTone) (C := RX7) (T := TX7) (N := 42) hx hb hts hi7 hown hK hP 0 rfl rfl 2 (by decide) hq4 (fun _ h9 => h9) rfl dX7_count_49 ?_
          refine lv_iload_n hx hb dX7_count_52 rfl (lv_at hl 2 rfl) ?_
          obtain ⟨h_28, hw⟩ := okC hw
          refine va_iald (i := v3) hx hb hK hP 3 0 rfl rfl h_28 dX7_count_53 ?_
          refine lv_if_le (tgt := 61) hx hb dX7_count_54 (by decide) (fun c_29 => ?_) (fun c_29 => ?_)
          · replace hw := okT hw c_29
            clear c_29
            exact w61 v1 v3 y0 o_level o_noRings o_noTones o_noFuel o_all o_noPieces o_noDrags o_code o_cellAt o_courseAt o_paceAt o_turnsAt o_slowAt o_fuelAt o_ringAt o_sums _ _ hP hD hS _ (lv_sub hl [0, 1, 2] rfl) hw
          · replace hw := okF hw c_29
            clear c_29
            exact w57 v1 v3 y0 o_level o_noRings o_noTones o_noFuel o_all o_noPieces o_noDrags o_code o_cellAt o_courseAt o_paceAt o_turnsAt o_slowAt o_fuelAt o_ringAt o_sums _ _ hP hD hS _ (lv_sub hl [0, 1, 2] rfl) hw
      intro v1 v2 v3 o_level o_noRings o_noTones o_noFuel o_all o_noPieces o_noDrags o_code o_cellAt o_courseAt o_paceAt o_turnsAt o_slowAt o_fuelAt o_ringAt o_sums H locs hP hD hS ls hl hw
      replace hw : okP (f_X7_count_L18b (f_X7_count_L18 n18) v1 v2 v3 o_level o_noRings o_noTones o_noFuel o_pieces o_drags o_all o_noPieces o_noDrags o_sets o_ringFar o_ringTone o_currents o_warmths o_code o_cellAt o_courseAt o_paceAt o_turnsAt o_slowAt o_fuelAt o_ringAt o_pieceParts o_dragCell o_dragBy o_sums) post := hw
      unfold f_X7_count_L18b at hw
      refine lv_iload_n hx hb dX7_count_18 rfl (lv_at hl 3 rfl) ?_
      refine lv_bipush (v := 7) hx hb dX7_count_19 (by decide) ?_
      refine lv_icmp_ge (tgt := 70) hx hb dX7_count_21 (by decide) (fun c_30 => ?_) (fun c_30 => ?_)
      · replace hw := okT hw c_30
        clear c_30
        exact w70 v1 v2 o_level o_noRings o_noTones o_noFuel o_all o_noPieces o_noDrags o_code o_cellAt o_courseAt o_paceAt o_turnsAt o_slowAt o_fuelAt o_ringAt o_sums _ _ hP hD hS _ (lv_sub hl [0, 1, 2] rfl) hw
      · replace hw := okF hw c_30
        clear c_30
        refine lv_iload_n hx hb dX7_count_24 rfl (lv_at hl 1 rfl) ?_
        refine lv_iconst (v := 2) hx hb dX7_count_25 (by decide) ?_
        refine lv_icmp_ge (tgt := 70) hx hb dX7_count_26 (by decide) (fun c_31 => ?_) (fun c_31 => ?_)
        · replace hw := okT hw c_31
          clear c_31
          exact w70 v1 v2 o_level o_noRings o_noTones o_noFuel o_all o_noPieces o_noDrags o_code o_cellAt o_courseAt o_paceAt o_turnsAt o_slowAt o_fuelAt o_ringAt o_sums _ _ hP hD hS _ (lv_sub hl [0, 1, 2] rfl) hw
        · replace hw := okF hw c_31
          clear c_31
          refine lv_iload_n hx hb dX7_count_29 rfl (lv_at hl 2 rfl) ?_
          refine lv_iload_n hx hb dX7_count_30 rfl (lv_at hl 1 rfl) ?_
          refine lv_if_ne (tgt := 43) hx hb dX7_count_31 (by decide) (fun c_32 => ?_) (fun c_32 => ?_)
          · replace hw := okF hw c_32
            clear c_32
            exact w43 v1 v3 v2 o_level o_noRings o_noTones o_noFuel o_all o_noPieces o_noDrags o_code o_cellAt o_courseAt o_paceAt o_turnsAt o_slowAt o_fuelAt o_ringAt o_sums _ _ hP hD hS _ (lv_sub hl [0, 1, 3] rfl) hw
          · replace hw := okT hw c_32
            clear c_32
            refine lv_aload_n hx hb dX7_count_34 rfl (lv_at hl 0 rfl) ?_
            refine va_get (D := (dC, dI)) (ci := 7) (v := .ref a_o_ringFar) (C := RX7) (T := TX7) (N := 42) hx hb hts hi7 hown hK hP 0 rfl rfl 1 (by decide) hq5 (fun _ h9 => h9) rfl dX7_count_35 ?_
            refine lv_iload_n hx hb dX7_count_38 rfl (lv_at hl 3 rfl) ?_
            obtain ⟨h_33, hw⟩ := okC hw
            refine va_iald (i := v3) hx hb hK hP 2 0 rfl rfl h_33 dX7_count_39 ?_
            refine lv_if_ge (tgt := 57) hx hb dX7_count_40 (by decide) (fun c_34 => ?_) (fun c_34 => ?_)
            · replace hw := okT hw c_34
              clear c_34
              exact w57 v1 v3 v2 o_level o_noRings o_noTones o_noFuel o_all o_noPieces o_noDrags o_code o_cellAt o_courseAt o_paceAt o_turnsAt o_slowAt o_fuelAt o_ringAt o_sums _ _ hP hD hS _ (lv_sub hl [0, 1, 3] rfl) hw
            · replace hw := okF hw c_34
              clear c_34
              exact w43 v1 v3 v2 o_level o_noRings o_noTones o_noFuel o_all o_noPieces o_noDrags o_code o_cellAt o_courseAt o_paceAt o_turnsAt o_slowAt o_fuelAt o_ringAt o_sums _ _ hP hD hS _ (lv_sub hl [0, 1, 3] rfl) hw
  unfold f_X7_count at hw
  have hP : va_P (dC, dI) vwCl (W_X7_count cyI cyJ cyO h_o a_o_sets a_o_ringFar a_o_ringTone a_o_currents a_o_warmths a_o_depths a_o_tape a_o_readFar a_o_readTone a_o_readSea a_o_code a_o_cellAt a_o_courseAt a_o_paceAt a_o_turnsAt a_o_slowAt a_o_fuelAt a_o_ringAt a_o_pieceParts a_o_dragCell a_o_dragBy a_o_sums a_o_shares a_o_keptFar a_o_image a_o_lanes a_o_sizes a_o_items a_o_movedItems o_taped o_at o_wrong o_level o_noRings o_noTones o_noFuel o_pieces o_drags o_all o_noPieces o_noDrags o_kept o_sets o_ringFar o_ringTone o_currents o_warmths o_code o_cellAt o_courseAt o_paceAt o_turnsAt o_slowAt o_fuelAt o_ringAt o_pieceParts o_dragCell o_dragBy o_sums) s.heap := hP
  obtain ⟨H, hH⟩ : ∃ H, H = s.heap := ⟨_, rfl⟩
  obtain ⟨locs, hlo⟩ : ∃ x : List Loc, x = [] := ⟨_, rfl⟩
  have hP : va_P (dC, dI) vwCl (W_X7_count cyI cyJ cyO h_o a_o_sets a_o_ringFar a_o_ringTone a_o_currents a_o_warmths a_o_depths a_o_tape a_o_readFar a_o_readTone a_o_readSea a_o_code a_o_cellAt a_o_courseAt a_o_paceAt a_o_turnsAt a_o_slowAt a_o_fuelAt a_o_ringAt a_o_pieceParts a_o_dragCell a_o_dragBy a_o_sums a_o_shares a_o_keptFar a_o_image a_o_lanes a_o_sizes a_o_items a_o_movedItems o_taped o_at o_wrong o_level o_noRings o_noTones o_noFuel o_pieces o_drags o_all o_noPieces o_noDrags o_kept o_sets o_ringFar o_ringTone o_currents o_warmths o_code o_cellAt o_courseAt o_paceAt o_turnsAt o_slowAt o_fuelAt o_ringAt o_pieceParts o_dragCell o_dragBy o_sums) H := by rw [hH]; exact hP
  have hS : va_S A s.heap H locs := by rw [hH, hlo]; exact hS
  refine kH hH hlo ?_
  clear hH hlo
  refine lv_iload_n hx hb dX7_count_0 rfl (lv_at hl 1 rfl) ?_
  refine lv_i2l (v := x1.toInt64) hx hb dX7_count_1 rfl ?_
  refine lv_lconst (v := 0) hx hb dX7_count_2 (by decide) ?_
  refine lv_ldc2 (v := 4) hx hb hown hq6 dX7_count_3 ?_
  have hFc := va_free (wc := []) hD hS hA [] rfl
  refine kp_i (va_runS (As := [.long x1.toInt64, .long 0, .long 4]) (rest := []) ⟨hx, hb, hml, hown, hts⟩ (c_X7_in l dC dI cyI cyJ cyO H.size x1.toInt64 0 4 _ (okb1 hw)) (va_cwS 3 hts (gdS (fun w h => List.mem_cons_of_mem _ h) q_838 q_839 q_8 q_840) rfl rfl rfl (by decide +kernel) ⟨Nat.le_of_ble_eq_true rfl, Nat.le_of_ble_eq_true rfl⟩) (kpre zN_ok hK va_P0 va_D0 trivial hS hFc) rfl rfl hl.1 rfl (lv_room (Nat.le_of_ble_eq_true rfl)) dX7_count_6 ⟨Nat.le_of_ble_eq_true rfl, Nat.le_of_ble_eq_true rfl⟩) hP hD hS hFc (fun r_35 H locs hw hP hS => ?_)
  try dsimp only at hw
  clear hFc
  refine lv_if_ne (tgt := 14) hx hb dX7_count_9 (by decide) (fun c_36 => ?_) (fun c_36 => ?_)
  · replace hw := okF hw c_36
    clear c_36
    refine lv_iconst (v := 0) hx hb dX7_count_14 (by decide) ?_
    refine lv_istore_n (lv' := [(2, .int 0), (0, .ref h_o), (1, .int x1)]) hx hb dX7_count_15 rfl hl (by decide) rfl (fun ls hl => ?_)
    refine lv_iconst (v := 1) hx hb dX7_count_16 (by decide) ?_
    refine lv_istore_n (lv' := [(3, .int 1), (2, .int 0), (0, .ref h_o), (1, .int x1)]) hx hb dX7_count_17 rfl hl (by decide) rfl (fun ls hl => ?_)
    exact w18 FU x1 0 1 o_level o_noRings o_noTones o_noFuel o_all o_noPieces o_noDrags o_code o_cellAt o_courseAt o_paceAt o_turnsAt o_slowAt o_fuelAt o_ringAt o_sums _ _ hP hD hS _ (lv_sub hl [2, 3, 1, 0] rfl) hw
  · replace hw := okT hw c_36
    clear c_36
    refine lv_iconst (v := (-1)) hx hb dX7_count_12 (by decide) ?_
    rw [hQ]
    exact W.iret (v := (-1)) hx hb hr (fun t ht hW => ⟨⟨(-1), (o_level, o_noRings, o_noTones, o_noFuel, o_all, o_noPieces, o_noDrags, o_code, o_cellAt, o_courseAt, o_paceAt, o_turnsAt, o_slowAt, o_fuelAt, o_ringAt, o_sums), rfl, okS hw, by rw [ht]; exact hP, va_K.moved hW.alike hK, hD⟩, hS.F ht⟩) hS.2.2 dX7_count_13
/-! ===== X7_thousandths ===== -/
theorem dX7_thousandths_0 : decode cX7_thousandths 0 = .ok (.lload_n 1, 1) := by decide +kernel
theorem dX7_thousandths_1 : decode cX7_thousandths 1 = .ok (.aload_n 0, 1) := by decide +kernel
theorem dX7_thousandths_2 : decode cX7_thousandths 2 = .ok (.getfield 221, 3) := by decide +kernel
theorem dX7_thousandths_5 : decode cX7_thousandths 5 = .ok (.lcmp, 1) := by decide +kernel
theorem dX7_thousandths_6 : decode cX7_thousandths 6 = .ok (.ifCond .ne 7, 3) := by decide +kernel
theorem dX7_thousandths_9 : decode cX7_thousandths 9 = .ok (.sipush 1000, 3) := by decide +kernel
theorem dX7_thousandths_12 : decode cX7_thousandths 12 = .ok (.ireturn, 1) := by decide +kernel
theorem dX7_thousandths_13 : decode cX7_thousandths 13 = .ok (.iconst 0, 1) := by decide +kernel
theorem dX7_thousandths_14 : decode cX7_thousandths 14 = .ok (.istore_n 3, 1) := by decide +kernel
theorem dX7_thousandths_15 : decode cX7_thousandths 15 = .ok (.lload_n 1, 1) := by decide +kernel
theorem dX7_thousandths_16 : decode cX7_thousandths 16 = .ok (.lstore 4, 2) := by decide +kernel
theorem dX7_thousandths_18 : decode cX7_thousandths 18 = .ok (.iconst 0, 1) := by decide +kernel
theorem dX7_thousandths_19 : decode cX7_thousandths 19 = .ok (.istore 6, 2) := by decide +kernel
theorem dX7_thousandths_21 : decode cX7_thousandths 21 = .ok (.iload 6, 2) := by decide +kernel
theorem dX7_thousandths_23 : decode cX7_thousandths 23 = .ok (.iconst 3, 1) := by decide +kernel
theorem dX7_thousandths_24 : decode cX7_thousandths 24 = .ok (.if_icmp .ge 40, 3) := by decide +kernel
theorem dX7_thousandths_27 : decode cX7_thousandths 27 = .ok (.bipush 10, 2) := by decide +kernel
theorem dX7_thousandths_29 : decode cX7_thousandths 29 = .ok (.iload_n 3, 1) := by decide +kernel
theorem dX7_thousandths_30 : decode cX7_thousandths 30 = .ok (.imul, 1) := by decide +kernel
theorem dX7_thousandths_31 : decode cX7_thousandths 31 = .ok (.lload 4, 2) := by decide +kernel
theorem dX7_thousandths_33 : decode cX7_thousandths 33 = .ok (.ldc2_w 245, 3) := by decide +kernel
theorem dX7_thousandths_36 : decode cX7_thousandths 36 = .ok (.lmul, 1) := by decide +kernel
theorem dX7_thousandths_37 : decode cX7_thousandths 37 = .ok (.aload_n 0, 1) := by decide +kernel
theorem dX7_thousandths_38 : decode cX7_thousandths 38 = .ok (.getfield 221, 3) := by decide +kernel
theorem dX7_thousandths_41 : decode cX7_thousandths 41 = .ok (.ldiv, 1) := by decide +kernel
theorem dX7_thousandths_42 : decode cX7_thousandths 42 = .ok (.l2i, 1) := by decide +kernel
theorem dX7_thousandths_43 : decode cX7_thousandths 43 = .ok (.iadd, 1) := by decide +kernel
theorem dX7_thousandths_44 : decode cX7_thousandths 44 = .ok (.istore_n 3, 1) := by decide +kernel
theorem dX7_thousandths_45 : decode cX7_thousandths 45 = .ok (.lload 4, 2) := by decide +kernel
theorem dX7_thousandths_47 : decode cX7_thousandths 47 = .ok (.ldc2_w 245, 3) := by decide +kernel
theorem dX7_thousandths_50 : decode cX7_thousandths 50 = .ok (.lmul, 1) := by decide +kernel
theorem dX7_thousandths_51 : decode cX7_thousandths 51 = .ok (.aload_n 0, 1) := by decide +kernel
theorem dX7_thousandths_52 : decode cX7_thousandths 52 = .ok (.getfield 221, 3) := by decide +kernel
theorem dX7_thousandths_55 : decode cX7_thousandths 55 = .ok (.lrem, 1) := by decide +kernel
theorem dX7_thousandths_56 : decode cX7_thousandths 56 = .ok (.lstore 4, 2) := by decide +kernel
theorem dX7_thousandths_58 : decode cX7_thousandths 58 = .ok (.iinc 6 1, 3) := by decide +kernel
theorem dX7_thousandths_61 : decode cX7_thousandths 61 = .ok (.goto (-40), 3) := by decide +kernel
theorem dX7_thousandths_64 : decode cX7_thousandths 64 = .ok (.iload_n 3, 1) := by decide +kernel
theorem dX7_thousandths_65 : decode cX7_thousandths 65 = .ok (.ireturn, 1) := by decide +kernel
abbrev W_X7_thousandths (cyI cyJ cyO : ClassId) (h_o a_o_sets a_o_ringFar a_o_ringTone a_o_currents a_o_warmths a_o_depths a_o_tape a_o_readFar a_o_readTone a_o_readSea a_o_code a_o_cellAt a_o_courseAt a_o_paceAt a_o_turnsAt a_o_slowAt a_o_fuelAt a_o_ringAt a_o_pieceParts a_o_dragCell a_o_dragBy a_o_sums a_o_shares a_o_keptFar a_o_image a_o_lanes a_o_sizes a_o_items a_o_movedItems : Nat) (o_taped : Int32) (o_at : Int32) (o_wrong : Int32) (o_level : Int32) (o_noRings : Int32) (o_noTones : Int32) (o_noFuel : Int32) (o_pieces : Int32) (o_drags : Int32) (o_all : Int64) (o_noPieces : Int32) (o_noDrags : Int32) (o_kept : Int32) : va_W := [(h_o, .inr (7, [.ref a_o_sets, .ref a_o_ringFar, .ref a_o_ringTone, .ref a_o_currents, .ref a_o_warmths, .ref a_o_depths, .ref a_o_tape, .int o_taped, .int o_at, .int o_wrong, .ref a_o_readFar, .ref a_o_readTone, .ref a_o_readSea, .ref a_o_code, .ref a_o_cellAt, .ref a_o_courseAt, .ref a_o_paceAt, .ref a_o_turnsAt, .ref a_o_slowAt, .ref a_o_fuelAt, .ref a_o_ringAt, .int o_level, .int o_noRings, .int o_noTones, .int o_noFuel, .int o_pieces, .ref a_o_pieceParts, .int o_drags, .ref a_o_dragCell, .ref a_o_dragBy, .ref a_o_sums, .long o_all, .int o_noPieces, .int o_noDrags, .ref a_o_shares, .ref a_o_keptFar, .ref a_o_image, .int o_kept, .ref a_o_lanes, .ref a_o_sizes, .ref a_o_items, .ref a_o_movedItems]))]
def f_X7_thousandths_L21b (k21 : Int32 → Int64 → Int32 → Int64 → Option (Int32)) (v3 : Int32) (v4 : Int64) (v6 : Int32) (o_all : Int64) : Option (Int32) :=
  if 3 ≤ v6 then
    some v3
  else
    chk (¬ o_all = 0) <|
    nm ((10 * v3) + (((v4 * 10) / o_all).toInt32)) fun x_1 =>
    chk (¬ o_all = 0) <|
    nm ((v4 * 10) - (v4 * 10) / o_all * o_all) fun x_2 =>
    nm (v6 + 1) fun x_3 =>
    k21 x_1 x_2 x_3 o_all
def f_X7_thousandths_L21 : Nat → Int32 → Int64 → Int32 → Int64 → Option (Int32)
  | 0 => fun _ _ _ _ => none
  | n + 1 => f_X7_thousandths_L21b (f_X7_thousandths_L21 n)
def f_X7_thousandths (x1 : Int64) (o_all : Int64) : Option (Int32) :=
  if (lg_cmp x1 o_all) = 0 then
    some 1000
  else
    f_X7_thousandths_L21 FU 0 x1 0 o_all
abbrev rm_X7_thousandths : Room := { frames := 0, cells := 0, slots := 0, locals := 0 }
set_option maxRecDepth 100000 in
set_option maxHeartbeats 4000000 in
theorem c_X7_thousandths (l : Launch) (dC : Nat → ClassId) (dI : Nat → Nat → Nat) (cyI cyJ cyO : ClassId) (sz : Nat) (h_o a_o_sets a_o_ringFar a_o_ringTone a_o_currents a_o_warmths a_o_depths a_o_tape a_o_readFar a_o_readTone a_o_readSea a_o_code a_o_cellAt a_o_courseAt a_o_paceAt a_o_turnsAt a_o_slowAt a_o_fuelAt a_o_ringAt a_o_pieceParts a_o_dragCell a_o_dragBy a_o_sums a_o_shares a_o_keptFar a_o_image a_o_lanes a_o_sizes a_o_items a_o_movedItems : Nat) (o_taped : Int32) (o_at : Int32) (o_wrong : Int32) (o_level : Int32) (o_noRings : Int32) (o_noTones : Int32) (o_noFuel : Int32) (o_pieces : Int32) (o_drags : Int32) (o_all : Int64) (o_noPieces : Int32) (o_noDrags : Int32) (o_kept : Int32) (x1 : Int64) (post : Int32 → Prop) (hf : okP (f_X7_thousandths x1 o_all) post) : Ci l (dC, dI) (tyL cyI cyJ cyO) yX7_thousandths wsX7_thousandths rm_X7_thousandths [.ref h_o, .long x1] sz (W_X7_thousandths cyI cyJ cyO h_o a_o_sets a_o_ringFar a_o_ringTone a_o_currents a_o_warmths a_o_depths a_o_tape a_o_readFar a_o_readTone a_o_readSea a_o_code a_o_cellAt a_o_courseAt a_o_paceAt a_o_turnsAt a_o_slowAt a_o_fuelAt a_o_ringAt a_o_pieceParts a_o_dragCell a_o_dragBy a_o_sums a_o_shares a_o_keptFar a_o_image a_o_lanes a_o_sizes a_o_items a_o_movedItems o_taped o_at o_wrong o_level o_noRings o_noTones o_noFuel o_pieces o_drags o_all o_noPieces o_noDrags o_kept) zN (fun r (_ : Unit) => post r) (fun _ => (W_X7_thousandths cyI cyJ cyO h_o a_o_sets a_o_ringFar a_o_ringTone a_o_currents a_o_warmths a_o_depths a_o_tape a_o_readFar a_o_readTone a_o_readSea a_o_code a_o_cellAt a_o_courseAt a_o_paceAt a_o_turnsAt a_o_slowAt a_o_fuelAt a_o_ringAt a_o_pieceParts a_o_dragCell a_o_dragBy a_o_sums a_o_shares a_o_keptFar a_o_image a_o_lanes a_o_sizes a_o_items a_o_movedItems o_taped o_at o_wrong o_level o_noRings o_noTones o_noFuel o_pieces o_drags o_all o_noPieces o_noDrags o_kept)) := by
  refine Met.ofW (cc := cX7_thousandths) (maxL := 7) (ret := (some .int)) (by decide) rfl ?_
  intro p e s m args below meth c s₁ B hml hv
  obtain ⟨rfl, hsz, hP, hK, hD0, hZ⟩ := hv
  have hx := B.exec
  have hb := B.bytes
  have hr := B.returns
  have hts := atoms_spec (ws := wsX7_thousandths) B.pre
  have hown : s.vm.findClass RX7 = some m.cls := findClass_of_methodNamed B.named
  have hlocks := B.notSynchronized
  subst hsz
  have hD := hD0.self (sz := s.heap.size)
  generalize hAe : va_A (W_X7_thousandths cyI cyJ cyO h_o a_o_sets a_o_ringFar a_o_ringTone a_o_currents a_o_warmths a_o_depths a_o_tape a_o_readFar a_o_readTone a_o_readSea a_o_code a_o_cellAt a_o_courseAt a_o_paceAt a_o_turnsAt a_o_slowAt a_o_fuelAt a_o_ringAt a_o_pieceParts a_o_dragCell a_o_dragBy a_o_sums a_o_shares a_o_keptFar a_o_image a_o_lanes a_o_sizes a_o_items a_o_movedItems o_taped o_at o_wrong o_level o_noRings o_noTones o_noFuel o_pieces o_drags o_all o_noPieces o_noDrags o_kept) s.heap.size = A at hD hZ ⊢
  have hA : ∀ q : Nat, s.heap.size ≤ q → A q := fun q h => by rw [← hAe]; exact Or.inr h
  clear hAe hD0
  have hS : va_S A s.heap s.heap [] := va_S.rf
  have hl := lv_entry ([.ref h_o, .long x1]) (n := 7) (Nat.le_of_ble_eq_true rfl)
  rw [lg_entry_eq]
  generalize (lg_sl ([.ref h_o, .long x1]) ++ List.replicate (7 - (lg_sl ([.ref h_o, .long x1])).length) Slot.unset).toArray = ls at hl ⊢
  have hl : lv_has ls 7 [(0, .ref h_o), (1, .long x1)] := hl
  refine kW (fun Q hQ => ?_)
  have hq0 := hts _ (List.mem_cons_of_mem _ q_1029)
  have hq1 := hts _ (List.mem_cons_of_mem _ q_737)
  have hi7 : ∀ w ∈ u_ws RX7 TX7 42, w ∈ wsX7_thousandths := fun w h => List.mem_cons_of_mem _ (inX7 w h)
  have hw := hf
  have w21 : ∀ (n : Nat), ∀ (v3 : Int32) (v4 : Int64) (v6 : Int32) (H : Heap) (locs : List Loc), va_P (dC, dI) vwCl (W_X7_thousandths cyI cyJ cyO h_o a_o_sets a_o_ringFar a_o_ringTone a_o_currents a_o_warmths a_o_depths a_o_tape a_o_readFar a_o_readTone a_o_readSea a_o_code a_o_cellAt a_o_courseAt a_o_paceAt a_o_turnsAt a_o_slowAt a_o_fuelAt a_o_ringAt a_o_pieceParts a_o_dragCell a_o_dragBy a_o_sums a_o_shares a_o_keptFar a_o_image a_o_lanes a_o_sizes a_o_items a_o_movedItems o_taped o_at o_wrong o_level o_noRings o_noTones o_noFuel o_pieces o_drags o_all o_noPieces o_noDrags o_kept) H → va_D A (W_X7_thousandths cyI cyJ cyO h_o a_o_sets a_o_ringFar a_o_ringTone a_o_currents a_o_warmths a_o_depths a_o_tape a_o_readFar a_o_readTone a_o_readSea a_o_code a_o_cellAt a_o_courseAt a_o_paceAt a_o_turnsAt a_o_slowAt a_o_fuelAt a_o_ringAt a_o_pieceParts a_o_dragCell a_o_dragBy a_o_sums a_o_shares a_o_keptFar a_o_image a_o_lanes a_o_sizes a_o_items a_o_movedItems o_taped o_at o_wrong o_level o_noRings o_noTones o_noFuel o_pieces o_drags o_all o_noPieces o_noDrags o_kept) → va_S A s.heap H locs → ∀ (ls : Array Slot), lv_has ls 7 [(0, .ref h_o), (3, .int v3), (4, .long v4), (6, .int v6)] → okP (f_X7_thousandths_L21 n v3 v4 v6 o_all) post → W p l e (headSpec wsX7_thousandths rm_X7_thousandths).room s m ([.ref h_o, .long x1] : List Value).toArray below meth c H locs 0 0 Q (F0 m 21 ls []) := by
    intro n
    induction n with
    | zero =>
      intro v3 v4 v6 H locs hP hD hS ls hl hw
      exact (ok0 hw).elim
    | succ n21 ih21 =>
      intro v3 v4 v6 H locs hP hD hS ls hl hw
      replace hw : okP (f_X7_thousandths_L21b (f_X7_thousandths_L21 n21) v3 v4 v6 o_all) post := hw
      unfold f_X7_thousandths_L21b at hw
      refine lv_iload hx hb dX7_thousandths_21 (lv_at hl 3 rfl) ?_
      refine lv_iconst (v := 3) hx hb dX7_thousandths_23 (by decide) ?_
      refine lv_icmp_ge (tgt := 64) hx hb dX7_thousandths_24 (by decide) (fun c_1 => ?_) (fun c_1 => ?_)
      · replace hw := okT hw c_1
        clear c_1
        refine lv_iload_n hx hb dX7_thousandths_64 rfl (lv_at hl 1 rfl) ?_
        rw [hQ]
        exact W.iret (v := v3) hx hb hr (fun t ht hW => ⟨⟨v3, (), rfl, okS hw, by rw [ht]; exact hP, va_K.moved hW.alike hK, hD⟩, hS.F ht⟩) hS.2.2 dX7_thousandths_65
      · replace hw := okF hw c_1
        clear c_1
        refine lv_bipush (v := 10) hx hb dX7_thousandths_27 (by decide) ?_
        refine lv_iload_n hx hb dX7_thousandths_29 rfl (lv_at hl 1 rfl) ?_
        refine lv_imul hx hb dX7_thousandths_30 ?_
        refine lv_lload hx hb dX7_thousandths_31 (lv_at hl 2 rfl) ?_
        refine lv_ldc2 (v := 10) hx hb hown hq0 dX7_thousandths_33 ?_
        refine lv_lmul hx hb dX7_thousandths_36 ?_
        refine lv_aload_n hx hb dX7_thousandths_37 rfl (lv_at hl 0 rfl) ?_
        refine va_get (D := (dC, dI)) (ci := 7) (v := .long o_all) (C := RX7) (T := TX7) (N := 42) hx hb hts hi7 hown hK hP 0 rfl rfl 31 (by decide) hq1 (fun _ h9 => h9) rfl dX7_thousandths_38 ?_
        obtain ⟨h_2, hw⟩ := okC hw
        refine lv_ldiv hx hb dX7_thousandths_41 h_2 ?_
        refine lv_l2i (v := ((v4 * 10) / o_all).toInt32) hx hb dX7_thousandths_42 rfl ?_
        refine lv_iadd hx hb dX7_thousandths_43 ?_
        refine lv_topi (fun x_3 ex_3 => ?_)
        replace hw := okN ex_3 hw
        clear ex_3
        refine lv_istore_n (lv' := [(3, .int x_3), (0, .ref h_o), (4, .long v4), (6, .int v6)]) hx hb dX7_thousandths_44 rfl hl (by decide) rfl (fun ls hl => ?_)
        refine lv_lload hx hb dX7_thousandths_45 (lv_at hl 2 rfl) ?_
        refine lv_ldc2 (v := 10) hx hb hown hq0 dX7_thousandths_47 ?_
        refine lv_lmul hx hb dX7_thousandths_50 ?_
        refine lv_aload_n hx hb dX7_thousandths_51 rfl (lv_at hl 1 rfl) ?_
        refine va_get (D := (dC, dI)) (ci := 7) (v := .long o_all) (C := RX7) (T := TX7) (N := 42) hx hb hts hi7 hown hK hP 0 rfl rfl 31 (by decide) hq1 (fun _ h9 => h9) rfl dX7_thousandths_52 ?_
        obtain ⟨h_4, hw⟩ := okC hw
        refine lv_lrem hx hb dX7_thousandths_55 h_4 ?_
        refine lv_topl (fun x_5 ex_5 => ?_)
        replace hw := okN ex_5 hw
        clear ex_5
        refine lv_lstore (lv' := [(4, .long x_5), (3, .int x_3), (0, .ref h_o), (6, .int v6)]) hx hb dX7_thousandths_56 hl (by decide) rfl (fun ls hl => ?_)
        obtain ⟨x_6, ex_6⟩ : ∃ y : Int32, y = v6 + 1 := ⟨_, rfl⟩
        replace hw := okN ex_6 hw
        refine lv_iinc (v := x_6) (lv' := [(6, .int x_6), (4, .long x_5), (3, .int x_3), (0, .ref h_o)]) hx hb dX7_thousandths_58 hl (k := 3) rfl (by rw [ex_6]; rfl) (by decide) rfl (fun ls hl => ?_)
        clear ex_6
        refine lv_goto (tgt := 21) hx hb dX7_thousandths_61 (by decide) ?_
        exact ih21 x_3 x_5 x_6 _ _ hP hD hS _ (lv_sub hl [3, 2, 1, 0] rfl) hw
  unfold f_X7_thousandths at hw
  have hP : va_P (dC, dI) vwCl (W_X7_thousandths cyI cyJ cyO h_o a_o_sets a_o_ringFar a_o_ringTone a_o_currents a_o_warmths a_o_depths a_o_tape a_o_readFar a_o_readTone a_o_readSea a_o_code a_o_cellAt a_o_courseAt a_o_paceAt a_o_turnsAt a_o_slowAt a_o_fuelAt a_o_ringAt a_o_pieceParts a_o_dragCell a_o_dragBy a_o_sums a_o_shares a_o_keptFar a_o_image a_o_lanes a_o_sizes a_o_items a_o_movedItems o_taped o_at o_wrong o_level o_noRings o_noTones o_noFuel o_pieces o_drags o_all o_noPieces o_noDrags o_kept) s.heap := hP
  obtain ⟨H, hH⟩ : ∃ H, H = s.heap := ⟨_, rfl⟩
  obtain ⟨locs, hlo⟩ : ∃ x : List Loc, x = [] := ⟨_, rfl⟩
  have hP : va_P (dC, dI) vwCl (W_X7_thousandths cyI cyJ cyO h_o a_o_sets a_o_ringFar a_o_ringTone a_o_currents a_o_warmths a_o_depths a_o_tape a_o_readFar a_o_readTone a_o_readSea a_o_code a_o_cellAt a_o_courseAt a_o_paceAt a_o_turnsAt a_o_slowAt a_o_fuelAt a_o_ringAt a_o_pieceParts a_o_dragCell a_o_dragBy a_o_sums a_o_shares a_o_keptFar a_o_image a_o_lanes a_o_sizes a_o_items a_o_movedItems o_taped o_at o_wrong o_level o_noRings o_noTones o_noFuel o_pieces o_drags o_all o_noPieces o_noDrags o_kept) H := by rw [hH]; exact hP
  have hS : va_S A s.heap H locs := by rw [hH, hlo]; exact hS
  refine kH hH hlo ?_
  clear hH hlo
  refine lv_lload_n hx hb dX7_thousandths_0 rfl (lv_at hl 1 rfl) ?_
  refine lv_aload_n hx hb dX7_thousandths_1 rfl (lv_at hl 0 rfl) ?_
  refine va_get (D := (dC, dI)) (ci := 7) (v := .long o_all) (C := RX7) (T := TX7) (N := 42) hx hb hts hi7 hown hK hP 0 rfl rfl 31 (by decide) hq1 (fun _ h9 => h9) rfl dX7_thousandths_2 ?_
  refine W.lcmp hx hb dX7_thousandths_5 ?_
  refine lv_if_ne (tgt := 13) hx hb dX7_thousandths_6 (by decide) (fun c_7 => ?_) (fun c_7 => ?_)
  · replace hw := okF hw c_7
    clear c_7
    refine lv_iconst (v := 0) hx hb dX7_thousandths_13 (by decide) ?_
    refine lv_istore_n (lv' := [(3, .int 0), (0, .ref h_o), (1, .long x1)]) hx hb dX7_thousandths_14 rfl hl (by decide) rfl (fun ls hl => ?_)
    refine lv_lload_n hx hb dX7_thousandths_15 rfl (lv_at hl 2 rfl) ?_
    refine lv_lstore (lv' := [(4, .long x1), (3, .int 0), (0, .ref h_o), (1, .long x1)]) hx hb dX7_thousandths_16 hl (by decide) rfl (fun ls hl => ?_)
    refine lv_iconst (v := 0) hx hb dX7_thousandths_18 (by decide) ?_
    refine lv_istore (lv' := [(6, .int 0), (4, .long x1), (3, .int 0), (0, .ref h_o), (1, .long x1)]) hx hb dX7_thousandths_19 hl (by decide) rfl (fun ls hl => ?_)
    exact w21 FU 0 x1 0 _ _ hP hD hS _ (lv_sub hl [3, 2, 1, 0] rfl) hw
  · replace hw := okT hw c_7
    clear c_7
    refine lv_sipush (v := 1000) hx hb dX7_thousandths_9 (by decide) ?_
    rw [hQ]
    exact W.iret (v := 1000) hx hb hr (fun t ht hW => ⟨⟨1000, (), rfl, okS hw, by rw [ht]; exact hP, va_K.moved hW.alike hK, hD⟩, hS.F ht⟩) hS.2.2 dX7_thousandths_12
/-! ===== X7_moved ===== -/
theorem dX7_moved_0 : decode cX7_moved 0 = .ok (.aload_n 0, 1) := by decide +kernel
theorem dX7_moved_1 : decode cX7_moved 1 = .ok (.invokevirtual 234, 3) := by decide +kernel
theorem dX7_moved_4 : decode cX7_moved 4 = .ok (.aload_n 0, 1) := by decide +kernel
theorem dX7_moved_5 : decode cX7_moved 5 = .ok (.getfield 221, 3) := by decide +kernel
theorem dX7_moved_8 : decode cX7_moved 8 = .ok (.lconst 0, 1) := by decide +kernel
theorem dX7_moved_9 : decode cX7_moved 9 = .ok (.lcmp, 1) := by decide +kernel
theorem dX7_moved_10 : decode cX7_moved 10 = .ok (.ifCond .le 7, 3) := by decide +kernel
theorem dX7_moved_13 : decode cX7_moved 13 = .ok (.iconst 1, 1) := by decide +kernel
theorem dX7_moved_14 : decode cX7_moved 14 = .ok (.goto 4, 3) := by decide +kernel
theorem dX7_moved_17 : decode cX7_moved 17 = .ok (.iconst 0, 1) := by decide +kernel
theorem dX7_moved_18 : decode cX7_moved 18 = .ok (.istore_n 2, 1) := by decide +kernel
theorem dX7_moved_19 : decode cX7_moved 19 = .ok (.iconst 0, 1) := by decide +kernel
theorem dX7_moved_20 : decode cX7_moved 20 = .ok (.istore_n 3, 1) := by decide +kernel
theorem dX7_moved_21 : decode cX7_moved 21 = .ok (.iload_n 3, 1) := by decide +kernel
theorem dX7_moved_22 : decode cX7_moved 22 = .ok (.bipush 100, 2) := by decide +kernel
theorem dX7_moved_24 : decode cX7_moved 24 = .ok (.if_icmp .ge 33, 3) := by decide +kernel
theorem dX7_moved_27 : decode cX7_moved 27 = .ok (.aload_n 0, 1) := by decide +kernel
theorem dX7_moved_28 : decode cX7_moved 28 = .ok (.getfield 77, 3) := by decide +kernel
theorem dX7_moved_31 : decode cX7_moved 31 = .ok (.iload_n 3, 1) := by decide +kernel
theorem dX7_moved_32 : decode cX7_moved 32 = .ok (.iload_n 2, 1) := by decide +kernel
theorem dX7_moved_33 : decode cX7_moved 33 = .ok (.ifCond .eq 16, 3) := by decide +kernel
theorem dX7_moved_36 : decode cX7_moved 36 = .ok (.aload_n 0, 1) := by decide +kernel
theorem dX7_moved_37 : decode cX7_moved 37 = .ok (.aload_n 0, 1) := by decide +kernel
theorem dX7_moved_38 : decode cX7_moved 38 = .ok (.getfield 73, 3) := by decide +kernel
theorem dX7_moved_41 : decode cX7_moved 41 = .ok (.iload_n 3, 1) := by decide +kernel
theorem dX7_moved_42 : decode cX7_moved 42 = .ok (.laload, 1) := by decide +kernel
theorem dX7_moved_43 : decode cX7_moved 43 = .ok (.invokevirtual 247, 3) := by decide +kernel
theorem dX7_moved_46 : decode cX7_moved 46 = .ok (.goto 4, 3) := by decide +kernel
theorem dX7_moved_49 : decode cX7_moved 49 = .ok (.iconst 0, 1) := by decide +kernel
theorem dX7_moved_50 : decode cX7_moved 50 = .ok (.iastore, 1) := by decide +kernel
theorem dX7_moved_51 : decode cX7_moved 51 = .ok (.iinc 3 1, 3) := by decide +kernel
theorem dX7_moved_54 : decode cX7_moved 54 = .ok (.goto (-33), 3) := by decide +kernel
theorem dX7_moved_57 : decode cX7_moved 57 = .ok (.aload_n 0, 1) := by decide +kernel
theorem dX7_moved_58 : decode cX7_moved 58 = .ok (.iload_n 1, 1) := by decide +kernel
theorem dX7_moved_59 : decode cX7_moved 59 = .ok (.bipush 6, 2) := by decide +kernel
theorem dX7_moved_61 : decode cX7_moved 61 = .ok (.if_icmp .ge 9, 3) := by decide +kernel
theorem dX7_moved_64 : decode cX7_moved 64 = .ok (.iconst 2, 1) := by decide +kernel
theorem dX7_moved_65 : decode cX7_moved 65 = .ok (.iload_n 1, 1) := by decide +kernel
theorem dX7_moved_66 : decode cX7_moved 66 = .ok (.ishl, 1) := by decide +kernel
theorem dX7_moved_67 : decode cX7_moved 67 = .ok (.goto 4, 3) := by decide +kernel
theorem dX7_moved_70 : decode cX7_moved 70 = .ok (.iconst 0, 1) := by decide +kernel
theorem dX7_moved_71 : decode cX7_moved 71 = .ok (.putfield 167, 3) := by decide +kernel
theorem dX7_moved_74 : decode cX7_moved 74 = .ok (.aload_n 0, 1) := by decide +kernel
theorem dX7_moved_75 : decode cX7_moved 75 = .ok (.iload_n 1, 1) := by decide +kernel
theorem dX7_moved_76 : decode cX7_moved 76 = .ok (.bipush 6, 2) := by decide +kernel
theorem dX7_moved_78 : decode cX7_moved 78 = .ok (.if_icmp .ne 7, 3) := by decide +kernel
theorem dX7_moved_81 : decode cX7_moved 81 = .ok (.iconst 1, 1) := by decide +kernel
theorem dX7_moved_82 : decode cX7_moved 82 = .ok (.goto 4, 3) := by decide +kernel
theorem dX7_moved_85 : decode cX7_moved 85 = .ok (.iconst 0, 1) := by decide +kernel
theorem dX7_moved_86 : decode cX7_moved 86 = .ok (.putfield 170, 3) := by decide +kernel
theorem dX7_moved_89 : decode cX7_moved 89 = .ok (.aload_n 0, 1) := by decide +kernel
theorem dX7_moved_90 : decode cX7_moved 90 = .ok (.iload_n 1, 1) := by decide +kernel
theorem dX7_moved_91 : decode cX7_moved 91 = .ok (.bipush 7, 2) := by decide +kernel
theorem dX7_moved_93 : decode cX7_moved 93 = .ok (.if_icmp .ne 7, 3) := by decide +kernel
theorem dX7_moved_96 : decode cX7_moved 96 = .ok (.iconst 1, 1) := by decide +kernel
theorem dX7_moved_97 : decode cX7_moved 97 = .ok (.goto 4, 3) := by decide +kernel
theorem dX7_moved_100 : decode cX7_moved 100 = .ok (.iconst 0, 1) := by decide +kernel
theorem dX7_moved_101 : decode cX7_moved 101 = .ok (.putfield 177, 3) := by decide +kernel
theorem dX7_moved_104 : decode cX7_moved 104 = .ok (.aload_n 0, 1) := by decide +kernel
theorem dX7_moved_105 : decode cX7_moved 105 = .ok (.iload_n 1, 1) := by decide +kernel
theorem dX7_moved_106 : decode cX7_moved 106 = .ok (.bipush 7, 2) := by decide +kernel
theorem dX7_moved_108 : decode cX7_moved 108 = .ok (.if_icmp .le 18, 3) := by decide +kernel
theorem dX7_moved_111 : decode cX7_moved 111 = .ok (.iload_n 1, 1) := by decide +kernel
theorem dX7_moved_112 : decode cX7_moved 112 = .ok (.bipush 12, 2) := by decide +kernel
theorem dX7_moved_114 : decode cX7_moved 114 = .ok (.if_icmp .ge 12, 3) := by decide +kernel
theorem dX7_moved_117 : decode cX7_moved 117 = .ok (.iconst 1, 1) := by decide +kernel
theorem dX7_moved_118 : decode cX7_moved 118 = .ok (.iload_n 1, 1) := by decide +kernel
theorem dX7_moved_119 : decode cX7_moved 119 = .ok (.bipush 8, 2) := by decide +kernel
theorem dX7_moved_121 : decode cX7_moved 121 = .ok (.isub, 1) := by decide +kernel
theorem dX7_moved_122 : decode cX7_moved 122 = .ok (.ishl, 1) := by decide +kernel
theorem dX7_moved_123 : decode cX7_moved 123 = .ok (.goto 4, 3) := by decide +kernel
theorem dX7_moved_126 : decode cX7_moved 126 = .ok (.iconst 0, 1) := by decide +kernel
theorem dX7_moved_127 : decode cX7_moved 127 = .ok (.putfield 225, 3) := by decide +kernel
theorem dX7_moved_130 : decode cX7_moved 130 = .ok (.aload_n 0, 1) := by decide +kernel
theorem dX7_moved_131 : decode cX7_moved 131 = .ok (.iload_n 1, 1) := by decide +kernel
theorem dX7_moved_132 : decode cX7_moved 132 = .ok (.bipush 12, 2) := by decide +kernel
theorem dX7_moved_134 : decode cX7_moved 134 = .ok (.if_icmp .ne 7, 3) := by decide +kernel
theorem dX7_moved_137 : decode cX7_moved 137 = .ok (.iconst 1, 1) := by decide +kernel
theorem dX7_moved_138 : decode cX7_moved 138 = .ok (.goto 4, 3) := by decide +kernel
theorem dX7_moved_141 : decode cX7_moved 141 = .ok (.iconst 0, 1) := by decide +kernel
theorem dX7_moved_142 : decode cX7_moved 142 = .ok (.putfield 228, 3) := by decide +kernel
theorem dX7_moved_145 : decode cX7_moved 145 = .ok (.aload_n 0, 1) := by decide +kernel
theorem dX7_moved_146 : decode cX7_moved 146 = .ok (.invokevirtual 231, 3) := by decide +kernel
theorem dX7_moved_149 : decode cX7_moved 149 = .ok (.iload_n 2, 1) := by decide +kernel
theorem dX7_moved_150 : decode cX7_moved 150 = .ok (.ifCond .eq 12, 3) := by decide +kernel
theorem dX7_moved_153 : decode cX7_moved 153 = .ok (.aload_n 0, 1) := by decide +kernel
theorem dX7_moved_154 : decode cX7_moved 154 = .ok (.getfield 221, 3) := by decide +kernel
theorem dX7_moved_157 : decode cX7_moved 157 = .ok (.lconst 0, 1) := by decide +kernel
theorem dX7_moved_158 : decode cX7_moved 158 = .ok (.lcmp, 1) := by decide +kernel
theorem dX7_moved_159 : decode cX7_moved 159 = .ok (.ifCond .ne 29, 3) := by decide +kernel
theorem dX7_moved_162 : decode cX7_moved 162 = .ok (.iload_n 2, 1) := by decide +kernel
theorem dX7_moved_163 : decode cX7_moved 163 = .ok (.aload_n 0, 1) := by decide +kernel
theorem dX7_moved_164 : decode cX7_moved 164 = .ok (.getfield 221, 3) := by decide +kernel
theorem dX7_moved_167 : decode cX7_moved 167 = .ok (.lconst 0, 1) := by decide +kernel
theorem dX7_moved_168 : decode cX7_moved 168 = .ok (.lcmp, 1) := by decide +kernel
theorem dX7_moved_169 : decode cX7_moved 169 = .ok (.ifCond .le 7, 3) := by decide +kernel
theorem dX7_moved_172 : decode cX7_moved 172 = .ok (.iconst 1, 1) := by decide +kernel
theorem dX7_moved_173 : decode cX7_moved 173 = .ok (.goto 4, 3) := by decide +kernel
theorem dX7_moved_176 : decode cX7_moved 176 = .ok (.iconst 0, 1) := by decide +kernel
theorem dX7_moved_177 : decode cX7_moved 177 = .ok (.if_icmp .ne 7, 3) := by decide +kernel
theorem dX7_moved_180 : decode cX7_moved 180 = .ok (.iconst 0, 1) := by decide +kernel
theorem dX7_moved_181 : decode cX7_moved 181 = .ok (.goto 6, 3) := by decide +kernel
theorem dX7_moved_184 : decode cX7_moved 184 = .ok (.sipush 1000, 3) := by decide +kernel
theorem dX7_moved_187 : decode cX7_moved 187 = .ok (.ireturn, 1) := by decide +kernel
theorem dX7_moved_188 : decode cX7_moved 188 = .ok (.iconst 0, 1) := by decide +kernel
theorem dX7_moved_189 : decode cX7_moved 189 = .ok (.istore_n 3, 1) := by decide +kernel
theorem dX7_moved_190 : decode cX7_moved 190 = .ok (.iconst 0, 1) := by decide +kernel
theorem dX7_moved_191 : decode cX7_moved 191 = .ok (.istore 4, 2) := by decide +kernel
theorem dX7_moved_193 : decode cX7_moved 193 = .ok (.iload 4, 2) := by decide +kernel
theorem dX7_moved_195 : decode cX7_moved 195 = .ok (.bipush 100, 2) := by decide +kernel
theorem dX7_moved_197 : decode cX7_moved 197 = .ok (.if_icmp .ge 46, 3) := by decide +kernel
theorem dX7_moved_200 : decode cX7_moved 200 = .ok (.aload_n 0, 1) := by decide +kernel
theorem dX7_moved_201 : decode cX7_moved 201 = .ok (.aload_n 0, 1) := by decide +kernel
theorem dX7_moved_202 : decode cX7_moved 202 = .ok (.getfield 73, 3) := by decide +kernel
theorem dX7_moved_205 : decode cX7_moved 205 = .ok (.iload 4, 2) := by decide +kernel
theorem dX7_moved_207 : decode cX7_moved 207 = .ok (.laload, 1) := by decide +kernel
theorem dX7_moved_208 : decode cX7_moved 208 = .ok (.invokevirtual 247, 3) := by decide +kernel
theorem dX7_moved_211 : decode cX7_moved 211 = .ok (.aload_n 0, 1) := by decide +kernel
theorem dX7_moved_212 : decode cX7_moved 212 = .ok (.getfield 77, 3) := by decide +kernel
theorem dX7_moved_215 : decode cX7_moved 215 = .ok (.iload 4, 2) := by decide +kernel
theorem dX7_moved_217 : decode cX7_moved 217 = .ok (.iaload, 1) := by decide +kernel
theorem dX7_moved_218 : decode cX7_moved 218 = .ok (.isub, 1) := by decide +kernel
theorem dX7_moved_219 : decode cX7_moved 219 = .ok (.istore 5, 2) := by decide +kernel
theorem dX7_moved_221 : decode cX7_moved 221 = .ok (.iload_n 3, 1) := by decide +kernel
theorem dX7_moved_222 : decode cX7_moved 222 = .ok (.iload 5, 2) := by decide +kernel
theorem dX7_moved_224 : decode cX7_moved 224 = .ok (.ifCond .ge 9, 3) := by decide +kernel
theorem dX7_moved_227 : decode cX7_moved 227 = .ok (.iload 5, 2) := by decide +kernel
theorem dX7_moved_229 : decode cX7_moved 229 = .ok (.ineg, 1) := by decide +kernel
theorem dX7_moved_230 : decode cX7_moved 230 = .ok (.goto 5, 3) := by decide +kernel
theorem dX7_moved_233 : decode cX7_moved 233 = .ok (.iload 5, 2) := by decide +kernel
theorem dX7_moved_235 : decode cX7_moved 235 = .ok (.iadd, 1) := by decide +kernel
theorem dX7_moved_236 : decode cX7_moved 236 = .ok (.istore_n 3, 1) := by decide +kernel
theorem dX7_moved_237 : decode cX7_moved 237 = .ok (.iinc 4 1, 3) := by decide +kernel
theorem dX7_moved_240 : decode cX7_moved 240 = .ok (.goto (-47), 3) := by decide +kernel
theorem dX7_moved_243 : decode cX7_moved 243 = .ok (.iload_n 3, 1) := by decide +kernel
theorem dX7_moved_244 : decode cX7_moved 244 = .ok (.ireturn, 1) := by decide +kernel
abbrev W_X7_moved (cyI cyJ cyO : ClassId) (h_o a_o_sets a_o_ringFar a_o_ringTone a_o_currents a_o_warmths a_o_depths a_o_tape a_o_readFar a_o_readTone a_o_readSea a_o_code a_o_cellAt a_o_courseAt a_o_paceAt a_o_turnsAt a_o_slowAt a_o_fuelAt a_o_ringAt a_o_pieceParts a_o_dragCell a_o_dragBy a_o_sums a_o_shares a_o_keptFar a_o_image a_o_lanes a_o_sizes a_o_items a_o_movedItems : Nat) (o_taped : Int32) (o_at : Int32) (o_wrong : Int32) (o_level : Int32) (o_noRings : Int32) (o_noTones : Int32) (o_noFuel : Int32) (o_pieces : Int32) (o_drags : Int32) (o_all : Int64) (o_noPieces : Int32) (o_noDrags : Int32) (o_kept : Int32) (o_sets : Nat → Int32) (o_ringFar : Nat → Int32) (o_ringTone : Nat → Int32) (o_currents : Nat → Int32) (o_warmths : Nat → Int32) (o_code : Nat → Int32) (o_cellAt : Nat → Int32) (o_courseAt : Nat → Int32) (o_paceAt : Nat → Int32) (o_turnsAt : Nat → Int32) (o_slowAt : Nat → Int32) (o_fuelAt : Nat → Int32) (o_ringAt : Nat → Int32) (o_pieceParts : Nat → Int32) (o_dragCell : Nat → Int32) (o_dragBy : Nat → Int32) (o_sums : Nat → Int64) (o_shares : Nat → Int32) : va_W := [(h_o, .inr (7, [.ref a_o_sets, .ref a_o_ringFar, .ref a_o_ringTone, .ref a_o_currents, .ref a_o_warmths, .ref a_o_depths, .ref a_o_tape, .int o_taped, .int o_at, .int o_wrong, .ref a_o_readFar, .ref a_o_readTone, .ref a_o_readSea, .ref a_o_code, .ref a_o_cellAt, .ref a_o_courseAt, .ref a_o_paceAt, .ref a_o_turnsAt, .ref a_o_slowAt, .ref a_o_fuelAt, .ref a_o_ringAt, .int o_level, .int o_noRings, .int o_noTones, .int o_noFuel, .int o_pieces, .ref a_o_pieceParts, .int o_drags, .ref a_o_dragCell, .ref a_o_dragBy, .ref a_o_sums, .long o_all, .int o_noPieces, .int o_noDrags, .ref a_o_shares, .ref a_o_keptFar, .ref a_o_image, .int o_kept, .ref a_o_lanes, .ref a_o_sizes, .ref a_o_items, .ref a_o_movedItems])), (a_o_sets, .inl (cyI, 8, .inl o_sets)), (a_o_ringFar, .inl (cyI, 7, .inl o_ringFar)), (a_o_ringTone, .inl (cyI, 7, .inl o_ringTone)), (a_o_currents, .inl (cyI, 200, .inl o_currents)), (a_o_warmths, .inl (cyI, 200, .inl o_warmths)), (a_o_code, .inl (cyI, 7, .inl o_code)), (a_o_cellAt, .inl (cyI, 7, .inl o_cellAt)), (a_o_courseAt, .inl (cyI, 7, .inl o_courseAt)), (a_o_paceAt, .inl (cyI, 7, .inl o_paceAt)), (a_o_turnsAt, .inl (cyI, 7, .inl o_turnsAt)), (a_o_slowAt, .inl (cyI, 7, .inl o_slowAt)), (a_o_fuelAt, .inl (cyI, 7, .inl o_fuelAt)), (a_o_ringAt, .inl (cyI, 7, .inl o_ringAt)), (a_o_pieceParts, .inl (cyI, 20, .inl o_pieceParts)), (a_o_dragCell, .inl (cyI, 6, .inl o_dragCell)), (a_o_dragBy, .inl (cyI, 6, .inl o_dragBy)), (a_o_sums, .inl (cyJ, 100, .inr (.inl o_sums))), (a_o_shares, .inl (cyI, 100, .inl o_shares))]
def f_X7_moved_B235 (k193 : Int32 → Int32 → Int32 → Int32 → Int32 → Int32 → Int32 → Int32 → Int64 → Int32 → Int32 → (Nat → Int32) → (Nat → Int32) → (Nat → Int32) → (Nat → Int32) → (Nat → Int32) → (Nat → Int32) → (Nat → Int32) → (Nat → Int32) → (Nat → Int32) → (Nat → Int32) → (Nat → Int32) → (Nat → Int32) → (Nat → Int32) → (Nat → Int32) → (Nat → Int32) → (Nat → Int32) → (Nat → Int64) → (Nat → Int32) → Option (Int32 × Int32 × Int32 × Int32 × Int32 × Int64 × Int32 × Int32 × (Nat → Int32) × (Nat → Int32) × (Nat → Int32) × (Nat → Int32) × (Nat → Int32) × (Nat → Int32) × (Nat → Int32) × (Nat → Int32) × (Nat → Int64) × (Nat → Int32))) (v4 : Int32) (y0 : Int32) (y1 : Int32) (o_level : Int32) (o_noRings : Int32) (o_noTones : Int32) (o_noFuel : Int32) (o_pieces : Int32) (o_drags : Int32) (o_all : Int64) (o_noPieces : Int32) (o_noDrags : Int32) (o_sets : Nat → Int32) (o_ringFar : Nat → Int32) (o_ringTone : Nat → Int32) (o_currents : Nat → Int32) (o_warmths : Nat → Int32) (o_code : Nat → Int32) (o_cellAt : Nat → Int32) (o_courseAt : Nat → Int32) (o_paceAt : Nat → Int32) (o_turnsAt : Nat → Int32) (o_slowAt : Nat → Int32) (o_fuelAt : Nat → Int32) (o_ringAt : Nat → Int32) (o_pieceParts : Nat → Int32) (o_dragCell : Nat → Int32) (o_dragBy : Nat → Int32) (o_sums : Nat → Int64) (o_shares : Nat → Int32) : Option (Int32 × Int32 × Int32 × Int32 × Int32 × Int64 × Int32 × Int32 × (Nat → Int32) × (Nat → Int32) × (Nat → Int32) × (Nat → Int32) × (Nat → Int32) × (Nat → Int32) × (Nat → Int32) × (Nat → Int32) × (Nat → Int64) × (Nat → Int32)) :=
  nm (y1 + y0) fun x_1 =>
  nm (v4 + 1) fun x_2 =>
  k193 x_1 x_2 o_level o_noRings o_noTones o_noFuel o_pieces o_drags o_all o_noPieces o_noDrags o_sets o_ringFar o_ringTone o_currents o_warmths o_code o_cellAt o_courseAt o_paceAt o_turnsAt o_slowAt o_fuelAt o_ringAt o_pieceParts o_dragCell o_dragBy o_sums o_shares
def f_X7_moved_L193b (k193 : Int32 → Int32 → Int32 → Int32 → Int32 → Int32 → Int32 → Int32 → Int64 → Int32 → Int32 → (Nat → Int32) → (Nat → Int32) → (Nat → Int32) → (Nat → Int32) → (Nat → Int32) → (Nat → Int32) → (Nat → Int32) → (Nat → Int32) → (Nat → Int32) → (Nat → Int32) → (Nat → Int32) → (Nat → Int32) → (Nat → Int32) → (Nat → Int32) → (Nat → Int32) → (Nat → Int32) → (Nat → Int64) → (Nat → Int32) → Option (Int32 × Int32 × Int32 × Int32 × Int32 × Int64 × Int32 × Int32 × (Nat → Int32) × (Nat → Int32) × (Nat → Int32) × (Nat → Int32) × (Nat → Int32) × (Nat → Int32) × (Nat → Int32) × (Nat → Int32) × (Nat → Int64) × (Nat → Int32))) (v3 : Int32) (v4 : Int32) (o_level : Int32) (o_noRings : Int32) (o_noTones : Int32) (o_noFuel : Int32) (o_pieces : Int32) (o_drags : Int32) (o_all : Int64) (o_noPieces : Int32) (o_noDrags : Int32) (o_sets : Nat → Int32) (o_ringFar : Nat → Int32) (o_ringTone : Nat → Int32) (o_currents : Nat → Int32) (o_warmths : Nat → Int32) (o_code : Nat → Int32) (o_cellAt : Nat → Int32) (o_courseAt : Nat → Int32) (o_paceAt : Nat → Int32) (o_turnsAt : Nat → Int32) (o_slowAt : Nat → Int32) (o_fuelAt : Nat → Int32) (o_ringAt : Nat → Int32) (o_pieceParts : Nat → Int32) (o_dragCell : Nat → Int32) (o_dragBy : Nat → Int32) (o_sums : Nat → Int64) (o_shares : Nat → Int32) : Option (Int32 × Int32 × Int32 × Int32 × Int32 × Int64 × Int32 × Int32 × (Nat → Int32) × (Nat → Int32) × (Nat → Int32) × (Nat → Int32) × (Nat → Int32) × (Nat → Int32) × (Nat → Int32) × (Nat → Int32) × (Nat → Int64) × (Nat → Int32)) :=
  if 100 ≤ v4 then
    some (v3, o_level, o_noRings, o_noTones, o_noFuel, o_all, o_noPieces, o_noDrags, o_code, o_cellAt, o_courseAt, o_paceAt, o_turnsAt, o_slowAt, o_fuelAt, o_ringAt, o_sums, o_shares)
  else
    chk (¬ (v4 < 0 ∨ 100 ≤ v4.toNatClampNeg)) <|
    bd1 (f_X7_thousandths (o_sums v4.toNatClampNeg) o_all) fun r_3 =>
    chk (¬ (v4 < 0 ∨ 100 ≤ v4.toNatClampNeg)) <|
    nm (r_3 - (o_shares v4.toNatClampNeg)) fun x_4 =>
    if 0 ≤ x_4 then
      f_X7_moved_B235 k193 v4 x_4 v3 o_level o_noRings o_noTones o_noFuel o_pieces o_drags o_all o_noPieces o_noDrags o_sets o_ringFar o_ringTone o_currents o_warmths o_code o_cellAt o_courseAt o_paceAt o_turnsAt o_slowAt o_fuelAt o_ringAt o_pieceParts o_dragCell o_dragBy o_sums o_shares
    else
      f_X7_moved_B235 k193 v4 (-x_4) v3 o_level o_noRings o_noTones o_noFuel o_pieces o_drags o_all o_noPieces o_noDrags o_sets o_ringFar o_ringTone o_currents o_warmths o_code o_cellAt o_courseAt o_paceAt o_turnsAt o_slowAt o_fuelAt o_ringAt o_pieceParts o_dragCell o_dragBy o_sums o_shares
def f_X7_moved_L193 : Nat → Int32 → Int32 → Int32 → Int32 → Int32 → Int32 → Int32 → Int32 → Int64 → Int32 → Int32 → (Nat → Int32) → (Nat → Int32) → (Nat → Int32) → (Nat → Int32) → (Nat → Int32) → (Nat → Int32) → (Nat → Int32) → (Nat → Int32) → (Nat → Int32) → (Nat → Int32) → (Nat → Int32) → (Nat → Int32) → (Nat → Int32) → (Nat → Int32) → (Nat → Int32) → (Nat → Int32) → (Nat → Int64) → (Nat → Int32) → Option (Int32 × Int32 × Int32 × Int32 × Int32 × Int64 × Int32 × Int32 × (Nat → Int32) × (Nat → Int32) × (Nat → Int32) × (Nat → Int32) × (Nat → Int32) × (Nat → Int32) × (Nat → Int32) × (Nat → Int32) × (Nat → Int64) × (Nat → Int32))
  | 0 => fun _ _ _ _ _ _ _ _ _ _ _ _ _ _ _ _ _ _ _ _ _ _ _ _ _ _ _ _ _ => none
  | n + 1 => f_X7_moved_L193b (f_X7_moved_L193 n)
def f_X7_moved_B177 (y0 : Int32) (y1 : Int32) (o_level : Int32) (o_noRings : Int32) (o_noTones : Int32) (o_noFuel : Int32) (o_pieces : Int32) (o_drags : Int32) (o_all : Int64) (o_noPieces : Int32) (o_noDrags : Int32) (o_sets : Nat → Int32) (o_ringFar : Nat → Int32) (o_ringTone : Nat → Int32) (o_currents : Nat → Int32) (o_warmths : Nat → Int32) (o_code : Nat → Int32) (o_cellAt : Nat → Int32) (o_courseAt : Nat → Int32) (o_paceAt : Nat → Int32) (o_turnsAt : Nat → Int32) (o_slowAt : Nat → Int32) (o_fuelAt : Nat → Int32) (o_ringAt : Nat → Int32) (o_pieceParts : Nat → Int32) (o_dragCell : Nat → Int32) (o_dragBy : Nat → Int32) (o_sums : Nat → Int64) (o_shares : Nat → Int32) : Option (Int32 × Int32 × Int32 × Int32 × Int32 × Int64 × Int32 × Int32 × (Nat → Int32) × (Nat → Int32) × (Nat → Int32) × (Nat → Int32) × (Nat → Int32) × (Nat → Int32) × (Nat → Int32) × (Nat → Int32) × (Nat → Int64) × (Nat → Int32)) :=
  if y1 = y0 then
    some (0, o_level, o_noRings, o_noTones, o_noFuel, o_all, o_noPieces, o_noDrags, o_code, o_cellAt, o_courseAt, o_paceAt, o_turnsAt, o_slowAt, o_fuelAt, o_ringAt, o_sums, o_shares)
  else
    some (1000, o_level, o_noRings, o_noTones, o_noFuel, o_all, o_noPieces, o_noDrags, o_code, o_cellAt, o_courseAt, o_paceAt, o_turnsAt, o_slowAt, o_fuelAt, o_ringAt, o_sums, o_shares)
def f_X7_moved_B162 (v2 : Int32) (o_level : Int32) (o_noRings : Int32) (o_noTones : Int32) (o_noFuel : Int32) (o_pieces : Int32) (o_drags : Int32) (o_all : Int64) (o_noPieces : Int32) (o_noDrags : Int32) (o_sets : Nat → Int32) (o_ringFar : Nat → Int32) (o_ringTone : Nat → Int32) (o_currents : Nat → Int32) (o_warmths : Nat → Int32) (o_code : Nat → Int32) (o_cellAt : Nat → Int32) (o_courseAt : Nat → Int32) (o_paceAt : Nat → Int32) (o_turnsAt : Nat → Int32) (o_slowAt : Nat → Int32) (o_fuelAt : Nat → Int32) (o_ringAt : Nat → Int32) (o_pieceParts : Nat → Int32) (o_dragCell : Nat → Int32) (o_dragBy : Nat → Int32) (o_sums : Nat → Int64) (o_shares : Nat → Int32) : Option (Int32 × Int32 × Int32 × Int32 × Int32 × Int64 × Int32 × Int32 × (Nat → Int32) × (Nat → Int32) × (Nat → Int32) × (Nat → Int32) × (Nat → Int32) × (Nat → Int32) × (Nat → Int32) × (Nat → Int32) × (Nat → Int64) × (Nat → Int32)) :=
  if (lg_cmp o_all 0) ≤ 0 then
    f_X7_moved_B177 0 v2 o_level o_noRings o_noTones o_noFuel o_pieces o_drags o_all o_noPieces o_noDrags o_sets o_ringFar o_ringTone o_currents o_warmths o_code o_cellAt o_courseAt o_paceAt o_turnsAt o_slowAt o_fuelAt o_ringAt o_pieceParts o_dragCell o_dragBy o_sums o_shares
  else
    f_X7_moved_B177 1 v2 o_level o_noRings o_noTones o_noFuel o_pieces o_drags o_all o_noPieces o_noDrags o_sets o_ringFar o_ringTone o_currents o_warmths o_code o_cellAt o_courseAt o_paceAt o_turnsAt o_slowAt o_fuelAt o_ringAt o_pieceParts o_dragCell o_dragBy o_sums o_shares
def f_X7_moved_B142 (v2 : Int32) (y0 : Int32) (o_level : Int32) (o_noRings : Int32) (o_noTones : Int32) (o_noFuel : Int32) (o_pieces : Int32) (o_drags : Int32) (o_all : Int64) (o_noPieces : Int32) (o_noDrags : Int32) (o_sets : Nat → Int32) (o_ringFar : Nat → Int32) (o_ringTone : Nat → Int32) (o_currents : Nat → Int32) (o_warmths : Nat → Int32) (o_code : Nat → Int32) (o_cellAt : Nat → Int32) (o_courseAt : Nat → Int32) (o_paceAt : Nat → Int32) (o_turnsAt : Nat → Int32) (o_slowAt : Nat → Int32) (o_fuelAt : Nat → Int32) (o_ringAt : Nat → Int32) (o_pieceParts : Nat → Int32) (o_dragCell : Nat → Int32) (o_dragBy : Nat → Int32) (o_sums : Nat → Int64) (o_shares : Nat → Int32) : Option (Int32 × Int32 × Int32 × Int32 × Int32 × Int64 × Int32 × Int32 × (Nat → Int32) × (Nat → Int32) × (Nat → Int32) × (Nat → Int32) × (Nat → Int32) × (Nat → Int32) × (Nat → Int32) × (Nat → Int32) × (Nat → Int64) × (Nat → Int32)) :=
  chk (y0 = 0 ∨ y0 = 1) <|
  bd11 (f_X7_ends o_level o_noRings o_noTones o_noFuel o_pieces o_drags o_all o_noPieces y0 o_sets o_ringFar o_ringTone o_currents o_warmths o_code o_cellAt o_courseAt o_paceAt o_turnsAt o_slowAt o_fuelAt o_ringAt o_pieceParts o_dragCell o_dragBy o_sums) fun w_5 w_6 w_7 w_8 w_9 w_10 w_11 w_12 w_13 w_14 w_15 =>
  if v2 = 0 then
    f_X7_moved_B162 v2 w_5 o_noRings o_noTones o_noFuel o_pieces o_drags w_6 o_noPieces y0 o_sets o_ringFar o_ringTone o_currents o_warmths w_7 w_8 w_9 w_10 w_11 w_12 w_13 w_14 o_pieceParts o_dragCell o_dragBy w_15 o_shares
  else
    if (lg_cmp w_6 0) = 0 then
      f_X7_moved_B162 v2 w_5 o_noRings o_noTones o_noFuel o_pieces o_drags w_6 o_noPieces y0 o_sets o_ringFar o_ringTone o_currents o_warmths w_7 w_8 w_9 w_10 w_11 w_12 w_13 w_14 o_pieceParts o_dragCell o_dragBy w_15 o_shares
    else
      f_X7_moved_L193 FU 0 0 w_5 o_noRings o_noTones o_noFuel o_pieces o_drags w_6 o_noPieces y0 o_sets o_ringFar o_ringTone o_currents o_warmths w_7 w_8 w_9 w_10 w_11 w_12 w_13 w_14 o_pieceParts o_dragCell o_dragBy w_15 o_shares
def f_X7_moved_B127 (v1 : Int32) (v2 : Int32) (y0 : Int32) (o_level : Int32) (o_noRings : Int32) (o_noTones : Int32) (o_noFuel : Int32) (o_pieces : Int32) (o_drags : Int32) (o_all : Int64) (o_noPieces : Int32) (o_noDrags : Int32) (o_sets : Nat → Int32) (o_ringFar : Nat → Int32) (o_ringTone : Nat → Int32) (o_currents : Nat → Int32) (o_warmths : Nat → Int32) (o_code : Nat → Int32) (o_cellAt : Nat → Int32) (o_courseAt : Nat → Int32) (o_paceAt : Nat → Int32) (o_turnsAt : Nat → Int32) (o_slowAt : Nat → Int32) (o_fuelAt : Nat → Int32) (o_ringAt : Nat → Int32) (o_pieceParts : Nat → Int32) (o_dragCell : Nat → Int32) (o_dragBy : Nat → Int32) (o_sums : Nat → Int64) (o_shares : Nat → Int32) : Option (Int32 × Int32 × Int32 × Int32 × Int32 × Int64 × Int32 × Int32 × (Nat → Int32) × (Nat → Int32) × (Nat → Int32) × (Nat → Int32) × (Nat → Int32) × (Nat → Int32) × (Nat → Int32) × (Nat → Int32) × (Nat → Int64) × (Nat → Int32)) :=
  if v1 = 12 then
    f_X7_moved_B142 v2 1 o_level o_noRings o_noTones o_noFuel o_pieces o_drags o_all y0 o_noDrags o_sets o_ringFar o_ringTone o_currents o_warmths o_code o_cellAt o_courseAt o_paceAt o_turnsAt o_slowAt o_fuelAt o_ringAt o_pieceParts o_dragCell o_dragBy o_sums o_shares
  else
    f_X7_moved_B142 v2 0 o_level o_noRings o_noTones o_noFuel o_pieces o_drags o_all y0 o_noDrags o_sets o_ringFar o_ringTone o_currents o_warmths o_code o_cellAt o_courseAt o_paceAt o_turnsAt o_slowAt o_fuelAt o_ringAt o_pieceParts o_dragCell o_dragBy o_sums o_shares
def f_X7_moved_B126 (v1 : Int32) (v2 : Int32) (o_level : Int32) (o_noRings : Int32) (o_noTones : Int32) (o_noFuel : Int32) (o_pieces : Int32) (o_drags : Int32) (o_all : Int64) (o_noPieces : Int32) (o_noDrags : Int32) (o_sets : Nat → Int32) (o_ringFar : Nat → Int32) (o_ringTone : Nat → Int32) (o_currents : Nat → Int32) (o_warmths : Nat → Int32) (o_code : Nat → Int32) (o_cellAt : Nat → Int32) (o_courseAt : Nat → Int32) (o_paceAt : Nat → Int32) (o_turnsAt : Nat → Int32) (o_slowAt : Nat → Int32) (o_fuelAt : Nat → Int32) (o_ringAt : Nat → Int32) (o_pieceParts : Nat → Int32) (o_dragCell : Nat → Int32) (o_dragBy : Nat → Int32) (o_sums : Nat → Int64) (o_shares : Nat → Int32) : Option (Int32 × Int32 × Int32 × Int32 × Int32 × Int64 × Int32 × Int32 × (Nat → Int32) × (Nat → Int32) × (Nat → Int32) × (Nat → Int32) × (Nat → Int32) × (Nat → Int32) × (Nat → Int32) × (Nat → Int32) × (Nat → Int64) × (Nat → Int32)) :=
  f_X7_moved_B127 v1 v2 0 o_level o_noRings o_noTones o_noFuel o_pieces o_drags o_all o_noPieces o_noDrags o_sets o_ringFar o_ringTone o_currents o_warmths o_code o_cellAt o_courseAt o_paceAt o_turnsAt o_slowAt o_fuelAt o_ringAt o_pieceParts o_dragCell o_dragBy o_sums o_shares
def f_X7_moved_B101 (v1 : Int32) (v2 : Int32) (y0 : Int32) (o_level : Int32) (o_noRings : Int32) (o_noTones : Int32) (o_noFuel : Int32) (o_pieces : Int32) (o_drags : Int32) (o_all : Int64) (o_noPieces : Int32) (o_noDrags : Int32) (o_sets : Nat → Int32) (o_ringFar : Nat → Int32) (o_ringTone : Nat → Int32) (o_currents : Nat → Int32) (o_warmths : Nat → Int32) (o_code : Nat → Int32) (o_cellAt : Nat → Int32) (o_courseAt : Nat → Int32) (o_paceAt : Nat → Int32) (o_turnsAt : Nat → Int32) (o_slowAt : Nat → Int32) (o_fuelAt : Nat → Int32) (o_ringAt : Nat → Int32) (o_pieceParts : Nat → Int32) (o_dragCell : Nat → Int32) (o_dragBy : Nat → Int32) (o_sums : Nat → Int64) (o_shares : Nat → Int32) : Option (Int32 × Int32 × Int32 × Int32 × Int32 × Int64 × Int32 × Int32 × (Nat → Int32) × (Nat → Int32) × (Nat → Int32) × (Nat → Int32) × (Nat → Int32) × (Nat → Int32) × (Nat → Int32) × (Nat → Int32) × (Nat → Int64) × (Nat → Int32)) :=
  chk (y0 = 0 ∨ y0 = 1) <|
  if v1 ≤ 7 then
    f_X7_moved_B126 v1 v2 o_level o_noRings o_noTones y0 o_pieces o_drags o_all o_noPieces o_noDrags o_sets o_ringFar o_ringTone o_currents o_warmths o_code o_cellAt o_courseAt o_paceAt o_turnsAt o_slowAt o_fuelAt o_ringAt o_pieceParts o_dragCell o_dragBy o_sums o_shares
  else
    if 12 ≤ v1 then
      f_X7_moved_B126 v1 v2 o_level o_noRings o_noTones y0 o_pieces o_drags o_all o_noPieces o_noDrags o_sets o_ringFar o_ringTone o_currents o_warmths o_code o_cellAt o_courseAt o_paceAt o_turnsAt o_slowAt o_fuelAt o_ringAt o_pieceParts o_dragCell o_dragBy o_sums o_shares
    else
      f_X7_moved_B127 v1 v2 (1 <<< ((v1 - 8) &&& 31)) o_level o_noRings o_noTones y0 o_pieces o_drags o_all o_noPieces o_noDrags o_sets o_ringFar o_ringTone o_currents o_warmths o_code o_cellAt o_courseAt o_paceAt o_turnsAt o_slowAt o_fuelAt o_ringAt o_pieceParts o_dragCell o_dragBy o_sums o_shares
def f_X7_moved_B86 (v1 : Int32) (v2 : Int32) (y0 : Int32) (o_level : Int32) (o_noRings : Int32) (o_noTones : Int32) (o_noFuel : Int32) (o_pieces : Int32) (o_drags : Int32) (o_all : Int64) (o_noPieces : Int32) (o_noDrags : Int32) (o_sets : Nat → Int32) (o_ringFar : Nat → Int32) (o_ringTone : Nat → Int32) (o_currents : Nat → Int32) (o_warmths : Nat → Int32) (o_code : Nat → Int32) (o_cellAt : Nat → Int32) (o_courseAt : Nat → Int32) (o_paceAt : Nat → Int32) (o_turnsAt : Nat → Int32) (o_slowAt : Nat → Int32) (o_fuelAt : Nat → Int32) (o_ringAt : Nat → Int32) (o_pieceParts : Nat → Int32) (o_dragCell : Nat → Int32) (o_dragBy : Nat → Int32) (o_sums : Nat → Int64) (o_shares : Nat → Int32) : Option (Int32 × Int32 × Int32 × Int32 × Int32 × Int64 × Int32 × Int32 × (Nat → Int32) × (Nat → Int32) × (Nat → Int32) × (Nat → Int32) × (Nat → Int32) × (Nat → Int32) × (Nat → Int32) × (Nat → Int32) × (Nat → Int64) × (Nat → Int32)) :=
  chk (y0 = 0 ∨ y0 = 1) <|
  if v1 = 7 then
    f_X7_moved_B101 v1 v2 1 o_level o_noRings y0 o_noFuel o_pieces o_drags o_all o_noPieces o_noDrags o_sets o_ringFar o_ringTone o_currents o_warmths o_code o_cellAt o_courseAt o_paceAt o_turnsAt o_slowAt o_fuelAt o_ringAt o_pieceParts o_dragCell o_dragBy o_sums o_shares
  else
    f_X7_moved_B101 v1 v2 0 o_level o_noRings y0 o_noFuel o_pieces o_drags o_all o_noPieces o_noDrags o_sets o_ringFar o_ringTone o_currents o_warmths o_code o_cellAt o_courseAt o_paceAt o_turnsAt o_slowAt o_fuelAt o_ringAt o_pieceParts o_dragCell o_dragBy o_sums o_shares
def f_X7_moved_B71 (v1 : Int32) (v2 : Int32) (y0 : Int32) (o_level : Int32) (o_noRings : Int32) (o_noTones : Int32) (o_noFuel : Int32) (o_pieces : Int32) (o_drags : Int32) (o_all : Int64) (o_noPieces : Int32) (o_noDrags : Int32) (o_sets : Nat → Int32) (o_ringFar : Nat → Int32) (o_ringTone : Nat → Int32) (o_currents : Nat → Int32) (o_warmths : Nat → Int32) (o_code : Nat → Int32) (o_cellAt : Nat → Int32) (o_courseAt : Nat → Int32) (o_paceAt : Nat → Int32) (o_turnsAt : Nat → Int32) (o_slowAt : Nat → Int32) (o_fuelAt : Nat → Int32) (o_ringAt : Nat → Int32) (o_pieceParts : Nat → Int32) (o_dragCell : Nat → Int32) (o_dragBy : Nat → Int32) (o_sums : Nat → Int64) (o_shares : Nat → Int32) : Option (Int32 × Int32 × Int32 × Int32 × Int32 × Int64 × Int32 × Int32 × (Nat → Int32) × (Nat → Int32) × (Nat → Int32) × (Nat → Int32) × (Nat → Int32) × (Nat → Int32) × (Nat → Int32) × (Nat → Int32) × (Nat → Int64) × (Nat → Int32)) :=
  if v1 = 6 then
    f_X7_moved_B86 v1 v2 1 o_level y0 o_noTones o_noFuel o_pieces o_drags o_all o_noPieces o_noDrags o_sets o_ringFar o_ringTone o_currents o_warmths o_code o_cellAt o_courseAt o_paceAt o_turnsAt o_slowAt o_fuelAt o_ringAt o_pieceParts o_dragCell o_dragBy o_sums o_shares
  else
    f_X7_moved_B86 v1 v2 0 o_level y0 o_noTones o_noFuel o_pieces o_drags o_all o_noPieces o_noDrags o_sets o_ringFar o_ringTone o_currents o_warmths o_code o_cellAt o_courseAt o_paceAt o_turnsAt o_slowAt o_fuelAt o_ringAt o_pieceParts o_dragCell o_dragBy o_sums o_shares
def f_X7_moved_B50 (k21 : Int32 → Int32 → Int32 → Int32 → Int32 → Int32 → Int32 → Int32 → Int32 → Int64 → Int32 → Int32 → (Nat → Int32) → (Nat → Int32) → (Nat → Int32) → (Nat → Int32) → (Nat → Int32) → (Nat → Int32) → (Nat → Int32) → (Nat → Int32) → (Nat → Int32) → (Nat → Int32) → (Nat → Int32) → (Nat → Int32) → (Nat → Int32) → (Nat → Int32) → (Nat → Int32) → (Nat → Int32) → (Nat → Int64) → (Nat → Int32) → Option (Int32 × Int32 × Int32 × Int32 × Int32 × Int64 × Int32 × Int32 × (Nat → Int32) × (Nat → Int32) × (Nat → Int32) × (Nat → Int32) × (Nat → Int32) × (Nat → Int32) × (Nat → Int32) × (Nat → Int32) × (Nat → Int64) × (Nat → Int32))) (v1 : Int32) (v2 : Int32) (v3 : Int32) (y0 : Int32) (y1 : Int32) (o_level : Int32) (o_noRings : Int32) (o_noTones : Int32) (o_noFuel : Int32) (o_pieces : Int32) (o_drags : Int32) (o_all : Int64) (o_noPieces : Int32) (o_noDrags : Int32) (o_sets : Nat → Int32) (o_ringFar : Nat → Int32) (o_ringTone : Nat → Int32) (o_currents : Nat → Int32) (o_warmths : Nat → Int32) (o_code : Nat → Int32) (o_cellAt : Nat → Int32) (o_courseAt : Nat → Int32) (o_paceAt : Nat → Int32) (o_turnsAt : Nat → Int32) (o_slowAt : Nat → Int32) (o_fuelAt : Nat → Int32) (o_ringAt : Nat → Int32) (o_pieceParts : Nat → Int32) (o_dragCell : Nat → Int32) (o_dragBy : Nat → Int32) (o_sums : Nat → Int64) (o_shares : Nat → Int32) : Option (Int32 × Int32 × Int32 × Int32 × Int32 × Int64 × Int32 × Int32 × (Nat → Int32) × (Nat → Int32) × (Nat → Int32) × (Nat → Int32) × (Nat → Int32) × (Nat → Int32) × (Nat → Int32) × (Nat → Int32) × (Nat → Int64) × (Nat → Int32)) :=
  chk (¬ (y1 < 0 ∨ 100 ≤ y1.toNatClampNeg)) <|
  nm (v3 + 1) fun x_16 =>
  k21 v1 v2 x_16 o_level o_noRings o_noTones o_noFuel o_pieces o_drags o_all o_noPieces o_noDrags o_sets o_ringFar o_ringTone o_currents o_warmths o_code o_cellAt o_courseAt o_paceAt o_turnsAt o_slowAt o_fuelAt o_ringAt o_pieceParts o_dragCell o_dragBy o_sums (upd o_shares y1.toNatClampNeg y0)
def f_X7_moved_L21b (k21 : Int32 → Int32 → Int32 → Int32 → Int32 → Int32 → Int32 → Int32 → Int32 → Int64 → Int32 → Int32 → (Nat → Int32) → (Nat → Int32) → (Nat → Int32) → (Nat → Int32) → (Nat → Int32) → (Nat → Int32) → (Nat → Int32) → (Nat → Int32) → (Nat → Int32) → (Nat → Int32) → (Nat → Int32) → (Nat → Int32) → (Nat → Int32) → (Nat → Int32) → (Nat → Int32) → (Nat → Int32) → (Nat → Int64) → (Nat → Int32) → Option (Int32 × Int32 × Int32 × Int32 × Int32 × Int64 × Int32 × Int32 × (Nat → Int32) × (Nat → Int32) × (Nat → Int32) × (Nat → Int32) × (Nat → Int32) × (Nat → Int32) × (Nat → Int32) × (Nat → Int32) × (Nat → Int64) × (Nat → Int32))) (v1 : Int32) (v2 : Int32) (v3 : Int32) (o_level : Int32) (o_noRings : Int32) (o_noTones : Int32) (o_noFuel : Int32) (o_pieces : Int32) (o_drags : Int32) (o_all : Int64) (o_noPieces : Int32) (o_noDrags : Int32) (o_sets : Nat → Int32) (o_ringFar : Nat → Int32) (o_ringTone : Nat → Int32) (o_currents : Nat → Int32) (o_warmths : Nat → Int32) (o_code : Nat → Int32) (o_cellAt : Nat → Int32) (o_courseAt : Nat → Int32) (o_paceAt : Nat → Int32) (o_turnsAt : Nat → Int32) (o_slowAt : Nat → Int32) (o_fuelAt : Nat → Int32) (o_ringAt : Nat → Int32) (o_pieceParts : Nat → Int32) (o_dragCell : Nat → Int32) (o_dragBy : Nat → Int32) (o_sums : Nat → Int64) (o_shares : Nat → Int32) : Option (Int32 × Int32 × Int32 × Int32 × Int32 × Int64 × Int32 × Int32 × (Nat → Int32) × (Nat → Int32) × (Nat → Int32) × (Nat → Int32) × (Nat → Int32) × (Nat → Int32) × (Nat → Int32) × (Nat → Int32) × (Nat → Int64) × (Nat → Int32)) :=
  if 100 ≤ v3 then
    if 6 ≤ v1 then
      f_X7_moved_B71 v1 v2 0 o_level o_noRings o_noTones o_noFuel o_pieces o_drags o_all o_noPieces o_noDrags o_sets o_ringFar o_ringTone o_currents o_warmths o_code o_cellAt o_courseAt o_paceAt o_turnsAt o_slowAt o_fuelAt o_ringAt o_pieceParts o_dragCell o_dragBy o_sums o_shares
    else
      f_X7_moved_B71 v1 v2 (2 <<< (v1 &&& 31)) o_level o_noRings o_noTones o_noFuel o_pieces o_drags o_all o_noPieces o_noDrags o_sets o_ringFar o_ringTone o_currents o_warmths o_code o_cellAt o_courseAt o_paceAt o_turnsAt o_slowAt o_fuelAt o_ringAt o_pieceParts o_dragCell o_dragBy o_sums o_shares
  else
    if v2 = 0 then
      f_X7_moved_B50 k21 v1 v2 v3 0 v3 o_level o_noRings o_noTones o_noFuel o_pieces o_drags o_all o_noPieces o_noDrags o_sets o_ringFar o_ringTone o_currents o_warmths o_code o_cellAt o_courseAt o_paceAt o_turnsAt o_slowAt o_fuelAt o_ringAt o_pieceParts o_dragCell o_dragBy o_sums o_shares
    else
      chk (¬ (v3 < 0 ∨ 100 ≤ v3.toNatClampNeg)) <|
      bd1 (f_X7_thousandths (o_sums v3.toNatClampNeg) o_all) fun r_17 =>
      f_X7_moved_B50 k21 v1 v2 v3 r_17 v3 o_level o_noRings o_noTones o_noFuel o_pieces o_drags o_all o_noPieces o_noDrags o_sets o_ringFar o_ringTone o_currents o_warmths o_code o_cellAt o_courseAt o_paceAt o_turnsAt o_slowAt o_fuelAt o_ringAt o_pieceParts o_dragCell o_dragBy o_sums o_shares
def f_X7_moved_L21 : Nat → Int32 → Int32 → Int32 → Int32 → Int32 → Int32 → Int32 → Int32 → Int32 → Int64 → Int32 → Int32 → (Nat → Int32) → (Nat → Int32) → (Nat → Int32) → (Nat → Int32) → (Nat → Int32) → (Nat → Int32) → (Nat → Int32) → (Nat → Int32) → (Nat → Int32) → (Nat → Int32) → (Nat → Int32) → (Nat → Int32) → (Nat → Int32) → (Nat → Int32) → (Nat → Int32) → (Nat → Int32) → (Nat → Int64) → (Nat → Int32) → Option (Int32 × Int32 × Int32 × Int32 × Int32 × Int64 × Int32 × Int32 × (Nat → Int32) × (Nat → Int32) × (Nat → Int32) × (Nat → Int32) × (Nat → Int32) × (Nat → Int32) × (Nat → Int32) × (Nat → Int32) × (Nat → Int64) × (Nat → Int32))
  | 0 => fun _ _ _ _ _ _ _ _ _ _ _ _ _ _ _ _ _ _ _ _ _ _ _ _ _ _ _ _ _ _ => none
  | n + 1 => f_X7_moved_L21b (f_X7_moved_L21 n)
def f_X7_moved_B18 (v1 : Int32) (y0 : Int32) (o_level : Int32) (o_noRings : Int32) (o_noTones : Int32) (o_noFuel : Int32) (o_pieces : Int32) (o_drags : Int32) (o_all : Int64) (o_noPieces : Int32) (o_noDrags : Int32) (o_sets : Nat → Int32) (o_ringFar : Nat → Int32) (o_ringTone : Nat → Int32) (o_currents : Nat → Int32) (o_warmths : Nat → Int32) (o_code : Nat → Int32) (o_cellAt : Nat → Int32) (o_courseAt : Nat → Int32) (o_paceAt : Nat → Int32) (o_turnsAt : Nat → Int32) (o_slowAt : Nat → Int32) (o_fuelAt : Nat → Int32) (o_ringAt : Nat → Int32) (o_pieceParts : Nat → Int32) (o_dragCell : Nat → Int32) (o_dragBy : Nat → Int32) (o_sums : Nat → Int64) (o_shares : Nat → Int32) : Option (Int32 × Int32 × Int32 × Int32 × Int32 × Int64 × Int32 × Int32 × (Nat → Int32) × (Nat → Int32) × (Nat → Int32) × (Nat → Int32) × (Nat → Int32) × (Nat → Int32) × (Nat → Int32) × (Nat → Int32) × (Nat → Int64) × (Nat → Int32)) :=
  f_X7_moved_L21 FU v1 y0 0 o_level o_noRings o_noTones o_noFuel o_pieces o_drags o_all o_noPieces o_noDrags o_sets o_ringFar o_ringTone o_currents o_warmths o_code o_cellAt o_courseAt o_paceAt o_turnsAt o_slowAt o_fuelAt o_ringAt o_pieceParts o_dragCell o_dragBy o_sums o_shares
def f_X7_moved (x1 : Int32) (o_level : Int32) (o_noRings : Int32) (o_noTones : Int32) (o_noFuel : Int32) (o_pieces : Int32) (o_drags : Int32) (o_all : Int64) (o_noPieces : Int32) (o_noDrags : Int32) (o_sets : Nat → Int32) (o_ringFar : Nat → Int32) (o_ringTone : Nat → Int32) (o_currents : Nat → Int32) (o_warmths : Nat → Int32) (o_code : Nat → Int32) (o_cellAt : Nat → Int32) (o_courseAt : Nat → Int32) (o_paceAt : Nat → Int32) (o_turnsAt : Nat → Int32) (o_slowAt : Nat → Int32) (o_fuelAt : Nat → Int32) (o_ringAt : Nat → Int32) (o_pieceParts : Nat → Int32) (o_dragCell : Nat → Int32) (o_dragBy : Nat → Int32) (o_sums : Nat → Int64) (o_shares : Nat → Int32) : Option (Int32 × Int32 × Int32 × Int32 × Int32 × Int64 × Int32 × Int32 × (Nat → Int32) × (Nat → Int32) × (Nat → Int32) × (Nat → Int32) × (Nat → Int32) × (Nat → Int32) × (Nat → Int32) × (Nat → Int32) × (Nat → Int64) × (Nat → Int32)) :=
  bd16 (f_X7_endsAsTold o_level o_noRings o_noTones o_noFuel o_pieces o_drags o_all o_noPieces o_noDrags o_sets o_ringFar o_ringTone o_currents o_warmths o_code o_cellAt o_courseAt o_paceAt o_turnsAt o_slowAt o_fuelAt o_ringAt o_pieceParts o_dragCell o_dragBy o_sums) fun w_18 w_19 w_20 w_21 w_22 w_23 w_24 w_25 w_26 w_27 w_28 w_29 w_30 w_31 w_32 w_33 =>
  if (lg_cmp w_22 0) ≤ 0 then
    f_X7_moved_B18 x1 0 w_18 w_19 w_20 w_21 o_pieces o_drags w_22 w_23 w_24 o_sets o_ringFar o_ringTone o_currents o_warmths w_25 w_26 w_27 w_28 w_29 w_30 w_31 w_32 o_pieceParts o_dragCell o_dragBy w_33 o_shares
  else
    f_X7_moved_B18 x1 1 w_18 w_19 w_20 w_21 o_pieces o_drags w_22 w_23 w_24 o_sets o_ringFar o_ringTone o_currents o_warmths w_25 w_26 w_27 w_28 w_29 w_30 w_31 w_32 o_pieceParts o_dragCell o_dragBy w_33 o_shares
abbrev rm_X7_moved : Room := { frames := 6, cells := 0, slots := 0, locals := 148 }
set_option maxRecDepth 100000 in
set_option maxHeartbeats 4000000 in
theorem c_X7_moved (l : Launch) (dC : Nat → ClassId) (dI : Nat → Nat → Nat) (cyI cyJ cyO : ClassId) (sz : Nat) (h_o a_o_sets a_o_ringFar a_o_ringTone a_o_currents a_o_warmths a_o_depths a_o_tape a_o_readFar a_o_readTone a_o_readSea a_o_code a_o_cellAt a_o_courseAt a_o_paceAt a_o_turnsAt a_o_slowAt a_o_fuelAt a_o_ringAt a_o_pieceParts a_o_dragCell a_o_dragBy a_o_sums a_o_shares a_o_keptFar a_o_image a_o_lanes a_o_sizes a_o_items a_o_movedItems : Nat) (o_taped : Int32) (o_at : Int32) (o_wrong : Int32) (o_level : Int32) (o_noRings : Int32) (o_noTones : Int32) (o_noFuel : Int32) (o_pieces : Int32) (o_drags : Int32) (o_all : Int64) (o_noPieces : Int32) (o_noDrags : Int32) (o_kept : Int32) (o_sets : Nat → Int32) (o_ringFar : Nat → Int32) (o_ringTone : Nat → Int32) (o_currents : Nat → Int32) (o_warmths : Nat → Int32) (o_code : Nat → Int32) (o_cellAt : Nat → Int32) (o_courseAt : Nat → Int32) (o_paceAt : Nat → Int32) (o_turnsAt : Nat → Int32) (o_slowAt : Nat → Int32) (o_fuelAt : Nat → Int32) (o_ringAt : Nat → Int32) (o_pieceParts : Nat → Int32) (o_dragCell : Nat → Int32) (o_dragBy : Nat → Int32) (o_sums : Nat → Int64) (o_shares : Nat → Int32) (x1 : Int32) (post : (Int32 × Int32 × Int32 × Int32 × Int32 × Int64 × Int32 × Int32 × (Nat → Int32) × (Nat → Int32) × (Nat → Int32) × (Nat → Int32) × (Nat → Int32) × (Nat → Int32) × (Nat → Int32) × (Nat → Int32) × (Nat → Int64) × (Nat → Int32)) → Prop) (hf : okP (f_X7_moved x1 o_level o_noRings o_noTones o_noFuel o_pieces o_drags o_all o_noPieces o_noDrags o_sets o_ringFar o_ringTone o_currents o_warmths o_code o_cellAt o_courseAt o_paceAt o_turnsAt o_slowAt o_fuelAt o_ringAt o_pieceParts o_dragCell o_dragBy o_sums o_shares) post) : Ci l (dC, dI) (tyL cyI cyJ cyO) yX7_moved wsX7_moved rm_X7_moved [.ref h_o, .int x1] sz (W_X7_moved cyI cyJ cyO h_o a_o_sets a_o_ringFar a_o_ringTone a_o_currents a_o_warmths a_o_depths a_o_tape a_o_readFar a_o_readTone a_o_readSea a_o_code a_o_cellAt a_o_courseAt a_o_paceAt a_o_turnsAt a_o_slowAt a_o_fuelAt a_o_ringAt a_o_pieceParts a_o_dragCell a_o_dragBy a_o_sums a_o_shares a_o_keptFar a_o_image a_o_lanes a_o_sizes a_o_items a_o_movedItems o_taped o_at o_wrong o_level o_noRings o_noTones o_noFuel o_pieces o_drags o_all o_noPieces o_noDrags o_kept o_sets o_ringFar o_ringTone o_currents o_warmths o_code o_cellAt o_courseAt o_paceAt o_turnsAt o_slowAt o_fuelAt o_ringAt o_pieceParts o_dragCell o_dragBy o_sums o_shares) zN (fun r u => post (r, u)) (fun u => (W_X7_moved cyI cyJ cyO h_o a_o_sets a_o_ringFar a_o_ringTone a_o_currents a_o_warmths a_o_depths a_o_tape a_o_readFar a_o_readTone a_o_readSea a_o_code a_o_cellAt a_o_courseAt a_o_paceAt a_o_turnsAt a_o_slowAt a_o_fuelAt a_o_ringAt a_o_pieceParts a_o_dragCell a_o_dragBy a_o_sums a_o_shares a_o_keptFar a_o_image a_o_lanes a_o_sizes a_o_items a_o_movedItems o_taped o_at o_wrong u.1 u.2.1 u.2.2.1 u.2.2.2.1 o_pieces o_drags u.2.2.2.2.1 u.2.2.2.2.2.1 u.2.2.2.2.2.2.1 o_kept o_sets o_ringFar o_ringTone o_currents o_warmths u.2.2.2.2.2.2.2.1 u.2.2.2.2.2.2.2.2.1 u.2.2.2.2.2.2.2.2.2.1 u.2.2.2.2.2.2.2.2.2.2.1 u.2.2.2.2.2.2.2.2.2.2.2.1 u.2.2.2.2.2.2.2.2.2.2.2.2.1 u.2.2.2.2.2.2.2.2.2.2.2.2.2.1 u.2.2.2.2.2.2.2.2.2.2.2.2.2.2.1 o_pieceParts o_dragCell o_dragBy u.2.2.2.2.2.2.2.2.2.2.2.2.2.2.2.1 u.2.2.2.2.2.2.2.2.2.2.2.2.2.2.2.2)) := by
  refine Met.ofW (cc := cX7_moved) (maxL := 6) (ret := (some .int)) (by decide) rfl ?_
  intro p e s m args below meth c s₁ B hml hv
  obtain ⟨rfl, hsz, hP, hK, hD0, hZ⟩ := hv
  have hx := B.exec
  have hb := B.bytes
  have hr := B.returns
  have hts := atoms_spec (ws := wsX7_moved) B.pre
  have hown : s.vm.findClass RX7 = some m.cls := findClass_of_methodNamed B.named
  have hlocks := B.notSynchronized
  subst hsz
  have hD := hD0.self (sz := s.heap.size)
  generalize hAe : va_A (W_X7_moved cyI cyJ cyO h_o a_o_sets a_o_ringFar a_o_ringTone a_o_currents a_o_warmths a_o_depths a_o_tape a_o_readFar a_o_readTone a_o_readSea a_o_code a_o_cellAt a_o_courseAt a_o_paceAt a_o_turnsAt a_o_slowAt a_o_fuelAt a_o_ringAt a_o_pieceParts a_o_dragCell a_o_dragBy a_o_sums a_o_shares a_o_keptFar a_o_image a_o_lanes a_o_sizes a_o_items a_o_movedItems o_taped o_at o_wrong o_level o_noRings o_noTones o_noFuel o_pieces o_drags o_all o_noPieces o_noDrags o_kept o_sets o_ringFar o_ringTone o_currents o_warmths o_code o_cellAt o_courseAt o_paceAt o_turnsAt o_slowAt o_fuelAt o_ringAt o_pieceParts o_dragCell o_dragBy o_sums o_shares) s.heap.size = A at hD hZ ⊢
  have hA : ∀ q : Nat, s.heap.size ≤ q → A q := fun q h => by rw [← hAe]; exact Or.inr h
  clear hAe hD0
  have hS : va_S A s.heap s.heap [] := va_S.rf
  have hl := lv_entry ([.ref h_o, .int x1]) (n := 6) (Nat.le_of_ble_eq_true rfl)
  rw [lg_entry_eq]
  generalize (lg_sl ([.ref h_o, .int x1]) ++ List.replicate (6 - (lg_sl ([.ref h_o, .int x1])).length) Slot.unset).toArray = ls at hl ⊢
  have hl : lv_has ls 6 [(0, .ref h_o), (1, .int x1)] := hl
  refine kW (fun Q hQ => ?_)
  have hq0 := hts _ (List.mem_cons_of_mem _ q_736)
  have hi7 : ∀ w ∈ u_ws RX7 TX7 42, w ∈ wsX7_moved := fun w h => List.mem_cons_of_mem _ (inX7 w h)
  have hq2 := hts _ (List.mem_cons_of_mem _ q_740)
  have hq3 := hts _ (List.mem_cons_of_mem _ q_737)
  have hq4 := hts _ (List.mem_cons_of_mem _ q_739)
  have hq5 := hts _ (List.mem_cons_of_mem _ q_738)
  have hq6 := hts _ (List.mem_cons_of_mem _ q_730)
  have hq7 := hts _ (List.mem_cons_of_mem _ q_729)
  have hq8 := hts _ (List.mem_cons_of_mem _ q_728)
  have hw := hf
  have w193 : ∀ (n : Nat), ∀ (v3 : Int32) (v4 : Int32) (o_level : Int32) (o_noRings : Int32) (o_noTones : Int32) (o_noFuel : Int32) (o_all : Int64) (o_noPieces : Int32) (o_noDrags : Int32) (o_code : Nat → Int32) (o_cellAt : Nat → Int32) (o_courseAt : Nat → Int32) (o_paceAt : Nat → Int32) (o_turnsAt : Nat → Int32) (o_slowAt : Nat → Int32) (o_fuelAt : Nat → Int32) (o_ringAt : Nat → Int32) (o_sums : Nat → Int64) (o_shares : Nat → Int32) (H : Heap) (locs : List Loc), va_P (dC, dI) vwCl (W_X7_moved cyI cyJ cyO h_o a_o_sets a_o_ringFar a_o_ringTone a_o_currents a_o_warmths a_o_depths a_o_tape a_o_readFar a_o_readTone a_o_readSea a_o_code a_o_cellAt a_o_courseAt a_o_paceAt a_o_turnsAt a_o_slowAt a_o_fuelAt a_o_ringAt a_o_pieceParts a_o_dragCell a_o_dragBy a_o_sums a_o_shares a_o_keptFar a_o_image a_o_lanes a_o_sizes a_o_items a_o_movedItems o_taped o_at o_wrong o_level o_noRings o_noTones o_noFuel o_pieces o_drags o_all o_noPieces o_noDrags o_kept o_sets o_ringFar o_ringTone o_currents o_warmths o_code o_cellAt o_courseAt o_paceAt o_turnsAt o_slowAt o_fuelAt o_ringAt o_pieceParts o_dragCell o_dragBy o_sums o_shares) H → va_D A (W_X7_moved cyI cyJ cyO h_o a_o_sets a_o_ringFar a_o_ringTone a_o_currents a_o_warmths a_o_depths a_o_tape a_o_readFar a_o_readTone a_o_readSea a_o_code a_o_cellAt a_o_courseAt a_o_paceAt a_o_turnsAt a_o_slowAt a_o_fuelAt a_o_ringAt a_o_pieceParts a_o_dragCell a_o_dragBy a_o_sums a_o_shares a_o_keptFar a_o_image a_o_lanes a_o_sizes a_o_items a_o_movedItems o_taped o_at o_wrong o_level o_noRings o_noTones o_noFuel o_pieces o_drags o_all o_noPieces o_noDrags o_kept o_sets o_ringFar o_ringTone o_currents o_warmths o_code o_cellAt o_courseAt o_paceAt o_turnsAt o_slowAt o_fuelAt o_ringAt o_pieceParts o_dragCell o_dragBy o_sums o_shares) → va_S A s.heap H locs → ∀ (ls : Array Slot), lv_has ls 6 [(0, .ref h_o), (3, .int v3), (4, .int v4)] → okP (f_X7_moved_L193 n v3 v4 o_level o_noRings o_noTones o_noFuel o_pieces o_drags o_all o_noPieces o_noDrags o_sets o_ringFar o_ringTone o_currents o_warmths o_code o_cellAt o_courseAt o_paceAt o_turnsAt o_slowAt o_fuelAt o_ringAt o_pieceParts o_dragCell o_dragBy o_sums o_shares) post → W p l e (headSpec wsX7_moved rm_X7_moved).room s m ([.ref h_o, .int x1] : List Value).toArray below meth c H locs 0 0 Q (F0 m 193 ls []) := by
    intro n
    induction n with
    | zero =>
      intro v3 v4 o_level o_noRings o_noTones o_noFuel o_all o_noPieces o_noDrags o_code o_cellAt o_courseAt o_paceAt o_turnsAt o_slowAt o_fuelAt o_ringAt o_sums o_shares H locs hP hD hS ls hl hw
      exact (ok0 hw).elim
    | succ n193 ih193 =>
      have w235 : ∀ (v4 : Int32) (y0 : Int32) (y1 : Int32) (o_level : Int32) (o_noRings : Int32) (o_noTones : Int32) (o_noFuel : Int32) (o_all : Int64) (o_noPieces : Int32) (o_noDrags : Int32) (o_code : Nat → Int32) (o_cellAt : Nat → Int32) (o_courseAt : Nat → Int32) (o_paceAt : Nat → Int32) (o_turnsAt : Nat → Int32) (o_slowAt : Nat → Int32) (o_fuelAt : Nat → Int32) (o_ringAt : Nat → Int32) (o_sums : Nat → Int64) (o_shares : Nat → Int32) (H : Heap) (locs : List Loc), va_P (dC, dI) vwCl (W_X7_moved cyI cyJ cyO h_o a_o_sets a_o_ringFar a_o_ringTone a_o_currents a_o_warmths a_o_depths a_o_tape a_o_readFar a_o_readTone a_o_readSea a_o_code a_o_cellAt a_o_courseAt a_o_paceAt a_o_turnsAt a_o_slowAt a_o_fuelAt a_o_ringAt a_o_pieceParts a_o_dragCell a_o_dragBy a_o_sums a_o_shares a_o_keptFar a_o_image a_o_lanes a_o_sizes a_o_items a_o_movedItems o_taped o_at o_wrong o_level o_noRings o_noTones o_noFuel o_pieces o_drags o_all o_noPieces o_noDrags o_kept o_sets o_ringFar o_ringTone o_currents o_warmths o_code o_cellAt o_courseAt o_paceAt o_turnsAt o_slowAt o_fuelAt o_ringAt o_pieceParts o_dragCell o_dragBy o_sums o_shares) H → va_D A (W_X7_moved cyI cyJ cyO h_o a_o_sets a_o_ringFar a_o_ringTone a_o_currents a_o_warmths a_o_depths a_o_tape a_o_readFar a_o_readTone a_o_readSea a_o_code a_o_cellAt a_o_courseAt a_o_paceAt a_o_turnsAt a_o_slowAt a_o_fuelAt a_o_ringAt a_o_pieceParts a_o_dragCell a_o_dragBy a_o_sums a_o_shares a_o_keptFar a_o_image a_o_lanes a_o_sizes a_o_items a_o_movedItems o_taped o_at o_wrong o_level o_noRings o_noTones o_noFuel o_pieces o_drags o_all o_noPieces o_noDrags o_kept o_sets o_ringFar o_ringTone o_currents o_warmths o_code o_cellAt o_courseAt o_paceAt o_turnsAt o_slowAt o_fuelAt o_ringAt o_pieceParts o_dragCell o_dragBy o_sums o_shares) → va_S A s.heap H locs → ∀ (ls : Array Slot), lv_has ls 6 [(0, .ref h_o), (4, .int v4)] → okP (f_X7_moved_B235 (f_X7_moved_L193 n193) v4 y0 y1 o_level o_noRings o_noTones o_noFuel o_pieces o_drags o_all o_noPieces o_noDrags o_sets o_ringFar o_ringTone o_currents o_warmths o_code o_cellAt o_courseAt o_paceAt o_turnsAt o_slowAt o_fuelAt o_ringAt o_pieceParts o_dragCell o_dragBy o_sums o_shares) post → W p l e (headSpec wsX7_moved rm_X7_moved).room s m ([.ref h_o, .int x1] : List Value).toArray below meth c H locs 0 0 Q (F0 m 235 ls [.int y0, .int y1]) := by
        intro v4 y0 y1 o_level o_noRings o_noTones o_noFuel o_all o_noPieces o_noDrags o_code o_cellAt o_courseAt o_paceAt o_turnsAt o_slowAt o_fuelAt o_ringAt o_sums o_shares H locs hP hD hS ls hl hw
        unfold f_X7_moved_B235 at hw
        refine lv_iadd hx hb dX7_moved_235 ?_
        refine lv_topi (fun x_1 ex_1 => ?_)
        replace hw := okN ex_1 hw
        clear ex_1
        refine lv_istore_n (lv' := [(3, .int x_1), (0, .ref h_o), (4, .int v4)]) hx hb dX7_moved_236 rfl hl (by decide) rfl (fun ls hl => ?_)
        obtain ⟨x_2, ex_2⟩ : ∃ y : Int32, y = v4 + 1 := ⟨_, rfl⟩
        replace hw := okN ex_2 hw
        refine lv_iinc (v := x_2) (lv' := [(4, .int x_2), (3, .int x_1), (0, .ref h_o)]) hx hb dX7_moved_237 hl (k := 2) rfl (by rw [ex_2]; rfl) (by decide) rfl (fun ls hl => ?_)
        clear ex_2
        refine lv_goto (tgt := 193) hx hb dX7_moved_240 (by decide) ?_
        exact ih193 x_1 x_2 o_level o_noRings o_noTones o_noFuel o_all o_noPieces o_noDrags o_code o_cellAt o_courseAt o_paceAt o_turnsAt o_slowAt o_fuelAt o_ringAt o_sums o_shares _ _ hP hD hS _ (lv_sub hl [2, 1, 0] rfl) hw
      intro v3 v4 o_level o_noRings o_noTones o_noFuel o_all o_noPieces o_noDrags o_code o_cellAt o_courseAt o_paceAt o_turnsAt o_slowAt o_fuelAt o_ringAt o_sums o_shares H locs hP hD hS ls hl hw
      replace hw : okP (f_X7_moved_L193b (f_X7_moved_L193 n193) v3 v4 o_level o_noRings o_noTones o_noFuel o_pieces o_drags o_all o_noPieces o_noDrags o_sets o_ringFar o_ringTone o_currents o_warmths o_code o_cellAt o_courseAt o_paceAt o_turnsAt o_slowAt o_fuelAt o_ringAt o_pieceParts o_dragCell o_dragBy o_sums o_shares) post := hw
      unfold f_X7_moved_L193b at hw
      refine lv_iload hx hb dX7_moved_193 (lv_at hl 2 rfl) ?_
      refine lv_bipush (v := 100) hx hb dX7_moved_195 (by decide) ?_
      refine lv_icmp_ge (tgt := 243) hx hb dX7_moved_197 (by decide) (fun c_3 => ?_) (fun c_3 => ?_)
      · replace hw := okT hw c_3
        clear c_3
        refine lv_iload_n hx hb dX7_moved_243 rfl (lv_at hl 1 rfl) ?_
        rw [hQ]
        exact W.iret (v := v3) hx hb hr (fun t ht hW => ⟨⟨v3, (o_level, o_noRings, o_noTones, o_noFuel, o_all, o_noPieces, o_noDrags, o_code, o_cellAt, o_courseAt, o_paceAt, o_turnsAt, o_slowAt, o_fuelAt, o_ringAt, o_sums, o_shares), rfl, okS hw, by rw [ht]; exact hP, va_K.moved hW.alike hK, hD⟩, hS.F ht⟩) hS.2.2 dX7_moved_244
      · replace hw := okF hw c_3
        clear c_3
        refine lv_aload_n hx hb dX7_moved_200 rfl (lv_at hl 0 rfl) ?_
        refine lv_aload_n hx hb dX7_moved_201 rfl (lv_at hl 0 rfl) ?_
        refine va_get (D := (dC, dI)) (ci := 7) (v := .ref a_o_sums) (C := RX7) (T := TX7) (N := 42) hx hb hts hi7 hown hK hP 0 rfl rfl 30 (by decide) hq0 (fun _ h9 => h9) rfl dX7_moved_202 ?_
        refine lv_iload hx hb dX7_moved_205 (lv_at hl 2 rfl) ?_
        obtain ⟨h_4, hw⟩ := okC hw
        refine va_lald (i := v4) hx hb hK hP 17 1 rfl rfl h_4 dX7_moved_207 ?_
        have hPc := hP.sub (ws' := (W_X7_thousandths cyI cyJ cyO h_o a_o_sets a_o_ringFar a_o_ringTone a_o_currents a_o_warmths a_o_depths a_o_tape a_o_readFar a_o_readTone a_o_readSea a_o_code a_o_cellAt a_o_courseAt a_o_paceAt a_o_turnsAt a_o_slowAt a_o_fuelAt a_o_ringAt a_o_pieceParts a_o_dragCell a_o_dragBy a_o_sums a_o_shares a_o_keptFar a_o_image a_o_lanes a_o_sizes a_o_items a_o_movedItems o_taped o_at o_wrong o_level o_noRings o_noTones o_noFuel o_pieces o_drags o_all o_noPieces o_noDrags o_kept)) [0] rfl
        have hDc := hD.sub (ws' := (W_X7_thousandths cyI cyJ cyO h_o a_o_sets a_o_ringFar a_o_ringTone a_o_currents a_o_warmths a_o_depths a_o_tape a_o_readFar a_o_readTone a_o_readSea a_o_code a_o_cellAt a_o_courseAt a_o_paceAt a_o_turnsAt a_o_slowAt a_o_fuelAt a_o_ringAt a_o_pieceParts a_o_dragCell a_o_dragBy a_o_sums a_o_shares a_o_keptFar a_o_image a_o_lanes a_o_sizes a_o_items a_o_movedItems o_taped o_at o_wrong o_level o_noRings o_noTones o_noFuel o_pieces o_drags o_all o_noPieces o_noDrags o_kept)) [0] (by decide +kernel) rfl
        have hFc := va_free (wc := (W_X7_thousandths cyI cyJ cyO h_o a_o_sets a_o_ringFar a_o_ringTone a_o_currents a_o_warmths a_o_depths a_o_tape a_o_readFar a_o_readTone a_o_readSea a_o_code a_o_cellAt a_o_courseAt a_o_paceAt a_o_turnsAt a_o_slowAt a_o_fuelAt a_o_ringAt a_o_pieceParts a_o_dragCell a_o_dragBy a_o_sums a_o_shares a_o_keptFar a_o_image a_o_lanes a_o_sizes a_o_items a_o_movedItems o_taped o_at o_wrong o_level o_noRings o_noTones o_noFuel o_pieces o_drags o_all o_noPieces o_noDrags o_kept)) hD hS hA [0] rfl
        refine kc_i (wr := [(a_o_sets, .inl (cyI, 8, .inl o_sets)), (a_o_ringFar, .inl (cyI, 7, .inl o_ringFar)), (a_o_ringTone, .inl (cyI, 7, .inl o_ringTone)), (a_o_currents, .inl (cyI, 200, .inl o_currents)), (a_o_warmths, .inl (cyI, 200, .inl o_warmths)), (a_o_code, .inl (cyI, 7, .inl o_code)), (a_o_cellAt, .inl (cyI, 7, .inl o_cellAt)), (a_o_courseAt, .inl (cyI, 7, .inl o_courseAt)), (a_o_paceAt, .inl (cyI, 7, .inl o_paceAt)), (a_o_turnsAt, .inl (cyI, 7, .inl o_turnsAt)), (a_o_slowAt, .inl (cyI, 7, .inl o_slowAt)), (a_o_fuelAt, .inl (cyI, 7, .inl o_fuelAt)), (a_o_ringAt, .inl (cyI, 7, .inl o_ringAt)), (a_o_pieceParts, .inl (cyI, 20, .inl o_pieceParts)), (a_o_dragCell, .inl (cyI, 6, .inl o_dragCell)), (a_o_dragBy, .inl (cyI, 6, .inl o_dragBy)), (a_o_sums, .inl (cyJ, 100, .inr (.inl o_sums))), (a_o_shares, .inl (cyI, 100, .inl o_shares))]) (va_runV (As := [.long (o_sums v4.toNatClampNeg)]) (rest := []) ⟨hx, hb, hml, hown, hts⟩ (c_X7_thousandths l dC dI cyI cyJ cyO H.size h_o a_o_sets a_o_ringFar a_o_ringTone a_o_currents a_o_warmths a_o_depths a_o_tape a_o_readFar a_o_readTone a_o_readSea a_o_code a_o_cellAt a_o_courseAt a_o_paceAt a_o_turnsAt a_o_slowAt a_o_fuelAt a_o_ringAt a_o_pieceParts a_o_dragCell a_o_dragBy a_o_sums a_o_shares a_o_keptFar a_o_image a_o_lanes a_o_sizes a_o_items a_o_movedItems o_taped o_at o_wrong o_level o_noRings o_noTones o_noFuel o_pieces o_drags o_all o_noPieces o_noDrags o_kept (o_sums v4.toNatClampNeg) _ (okb1 hw)) (cwV 1 hts (gdV (fun w h => List.mem_cons_of_mem _ h) q_1025 q_1027 qs_42 q_8 q_1028) rfl rfl rfl (by decide +kernel) ⟨Nat.le_of_ble_eq_true rfl, Nat.le_of_ble_eq_true rfl⟩) ⟨(kpre zN_ok hK hPc hDc trivial hS hFc).1, va_recv hK hP (ci := 7) (q0 := 0) rfl rfl, (kpre zN_ok hK hPc hDc trivial hS hFc).2⟩ rfl rfl hl.1 rfl (lv_room (Nat.le_of_ble_eq_true rfl)) dX7_moved_208 ⟨Nat.le_of_ble_eq_true rfl, Nat.le_of_ble_eq_true rfl⟩) hP hD hS hFc [0] [1, 2, 3, 4, 5, 6, 7, 8, 9, 10, 11, 12, 13, 14, 15, 16, 17, 18] rfl rfl (by decide +kernel) (by decide +kernel) (fun r_5 u H locs hw hP hD hS => ?_)
        try dsimp only at hw
        have hP : va_P (dC, dI) vwCl (W_X7_moved cyI cyJ cyO h_o a_o_sets a_o_ringFar a_o_ringTone a_o_currents a_o_warmths a_o_depths a_o_tape a_o_readFar a_o_readTone a_o_readSea a_o_code a_o_cellAt a_o_courseAt a_o_paceAt a_o_turnsAt a_o_slowAt a_o_fuelAt a_o_ringAt a_o_pieceParts a_o_dragCell a_o_dragBy a_o_sums a_o_shares a_o_keptFar a_o_image a_o_lanes a_o_sizes a_o_items a_o_movedItems o_taped o_at o_wrong o_level o_noRings o_noTones o_noFuel o_pieces o_drags o_all o_noPieces o_noDrags o_kept o_sets o_ringFar o_ringTone o_currents o_warmths o_code o_cellAt o_courseAt o_paceAt o_turnsAt o_slowAt o_fuelAt o_ringAt o_pieceParts o_dragCell o_dragBy o_sums o_shares) H := hP.sub [18, 0, 1, 2, 3, 4, 5, 6, 7, 8, 9, 10, 11, 12, 13, 14, 15, 16, 17] rfl
        have hD : va_D A (W_X7_moved cyI cyJ cyO h_o a_o_sets a_o_ringFar a_o_ringTone a_o_currents a_o_warmths a_o_depths a_o_tape a_o_readFar a_o_readTone a_o_readSea a_o_code a_o_cellAt a_o_courseAt a_o_paceAt a_o_turnsAt a_o_slowAt a_o_fuelAt a_o_ringAt a_o_pieceParts a_o_dragCell a_o_dragBy a_o_sums a_o_shares a_o_keptFar a_o_image a_o_lanes a_o_sizes a_o_items a_o_movedItems o_taped o_at o_wrong o_level o_noRings o_noTones o_noFuel o_pieces o_drags o_all o_noPieces o_noDrags o_kept o_sets o_ringFar o_ringTone o_currents o_warmths o_code o_cellAt o_courseAt o_paceAt o_turnsAt o_slowAt o_fuelAt o_ringAt o_pieceParts o_dragCell o_dragBy o_sums o_shares) := hD.sub [18, 0, 1, 2, 3, 4, 5, 6, 7, 8, 9, 10, 11, 12, 13, 14, 15, 16, 17] (by decide +kernel) rfl
        clear hPc hDc hFc
        refine lv_aload_n hx hb dX7_moved_211 rfl (lv_at hl 0 rfl) ?_
        refine va_get (D := (dC, dI)) (ci := 7) (v := .ref a_o_shares) (C := RX7) (T := TX7) (N := 42) hx hb hts hi7 hown hK hP 0 rfl rfl 34 (by decide) hq2 (fun _ h9 => h9) rfl dX7_moved_212 ?_
        refine lv_iload hx hb dX7_moved_215 (lv_at hl 2 rfl) ?_
        obtain ⟨h_6, hw⟩ := okC hw
        refine va_iald (i := v4) hx hb hK hP 18 0 rfl rfl h_6 dX7_moved_217 ?_
        refine lv_isub hx hb dX7_moved_218 ?_
        refine lv_topi (fun x_7 ex_7 => ?_)
        replace hw := okN ex_7 hw
        clear ex_7
        refine lv_istore (lv' := [(5, .int x_7), (0, .ref h_o), (3, .int v3), (4, .int v4)]) hx hb dX7_moved_219 hl (by decide) rfl (fun ls hl => ?_)
        refine lv_iload_n hx hb dX7_moved_221 rfl (lv_at hl 2 rfl) ?_
        refine lv_iload hx hb dX7_moved_222 (lv_at hl 0 rfl) ?_
        refine lv_if_ge (tgt := 233) hx hb dX7_moved_224 (by decide) (fun c_8 => ?_) (fun c_8 => ?_)
        · replace hw := okT hw c_8
          clear c_8
          refine lv_iload hx hb dX7_moved_233 (lv_at hl 0 rfl) ?_
          exact w235 v4 x_7 v3 o_level o_noRings o_noTones o_noFuel o_all o_noPieces o_noDrags o_code o_cellAt o_courseAt o_paceAt o_turnsAt o_slowAt o_fuelAt o_ringAt o_sums o_shares _ _ hP hD hS _ (lv_sub hl [1, 3] rfl) hw
        · replace hw := okF hw c_8
          clear c_8
          refine lv_iload hx hb dX7_moved_227 (lv_at hl 0 rfl) ?_
          refine lv_ineg hx hb dX7_moved_229 ?_
          refine lv_goto (tgt := 235) hx hb dX7_moved_230 (by decide) ?_
          exact w235 v4 (-x_7) v3 o_level o_noRings o_noTones o_noFuel o_all o_noPieces o_noDrags o_code o_cellAt o_courseAt o_paceAt o_turnsAt o_slowAt o_fuelAt o_ringAt o_sums o_shares _ _ hP hD hS _ (lv_sub hl [1, 3] rfl) hw
  have w177 : ∀ (y0 : Int32) (y1 : Int32) (o_level : Int32) (o_noRings : Int32) (o_noTones : Int32) (o_noFuel : Int32) (o_all : Int64) (o_noPieces : Int32) (o_noDrags : Int32) (o_code : Nat → Int32) (o_cellAt : Nat → Int32) (o_courseAt : Nat → Int32) (o_paceAt : Nat → Int32) (o_turnsAt : Nat → Int32) (o_slowAt : Nat → Int32) (o_fuelAt : Nat → Int32) (o_ringAt : Nat → Int32) (o_sums : Nat → Int64) (o_shares : Nat → Int32) (H : Heap) (locs : List Loc), va_P (dC, dI) vwCl (W_X7_moved cyI cyJ cyO h_o a_o_sets a_o_ringFar a_o_ringTone a_o_currents a_o_warmths a_o_depths a_o_tape a_o_readFar a_o_readTone a_o_readSea a_o_code a_o_cellAt a_o_courseAt a_o_paceAt a_o_turnsAt a_o_slowAt a_o_fuelAt a_o_ringAt a_o_pieceParts a_o_dragCell a_o_dragBy a_o_sums a_o_shares a_o_keptFar a_o_image a_o_lanes a_o_sizes a_o_items a_o_movedItems o_taped o_at o_wrong o_level o_noRings o_noTones o_noFuel o_pieces o_drags o_all o_noPieces o_noDrags o_kept o_sets o_ringFar o_ringTone o_currents o_warmths o_code o_cellAt o_courseAt o_paceAt o_turnsAt o_slowAt o_fuelAt o_ringAt o_pieceParts o_dragCell o_dragBy o_sums o_shares) H → va_D A (W_X7_moved cyI cyJ cyO h_o a_o_sets a_o_ringFar a_o_ringTone a_o_currents a_o_warmths a_o_depths a_o_tape a_o_readFar a_o_readTone a_o_readSea a_o_code a_o_cellAt a_o_courseAt a_o_paceAt a_o_turnsAt a_o_slowAt a_o_fuelAt a_o_ringAt a_o_pieceParts a_o_dragCell a_o_dragBy a_o_sums a_o_shares a_o_keptFar a_o_image a_o_lanes a_o_sizes a_o_items a_o_movedItems o_taped o_at o_wrong o_level o_noRings o_noTones o_noFuel o_pieces o_drags o_all o_noPieces o_noDrags o_kept o_sets o_ringFar o_ringTone o_currents o_warmths o_code o_cellAt o_courseAt o_paceAt o_turnsAt o_slowAt o_fuelAt o_ringAt o_pieceParts o_dragCell o_dragBy o_sums o_shares) → va_S A s.heap H locs → ∀ (ls : Array Slot), lv_has ls 6 [] → okP (f_X7_moved_B177 y0 y1 o_level o_noRings o_noTones o_noFuel o_pieces o_drags o_all o_noPieces o_noDrags o_sets o_ringFar o_ringTone o_currents o_warmths o_code o_cellAt o_courseAt o_paceAt o_turnsAt o_slowAt o_fuelAt o_ringAt o_pieceParts o_dragCell o_dragBy o_sums o_shares) post → W p l e (headSpec wsX7_moved rm_X7_moved).room s m ([.ref h_o, .int x1] : List Value).toArray below meth c H locs 0 0 Q (F0 m 177 ls [.int y0, .int y1]) := by
    intro y0 y1 o_level o_noRings o_noTones o_noFuel o_all o_noPieces o_noDrags o_code o_cellAt o_courseAt o_paceAt o_turnsAt o_slowAt o_fuelAt o_ringAt o_sums o_shares H locs hP hD hS ls hl hw
    unfold f_X7_moved_B177 at hw
    refine lv_icmp_ne (tgt := 184) hx hb dX7_moved_177 (by decide) (fun c_9 => ?_) (fun c_9 => ?_)
    · replace hw := okF hw c_9
      clear c_9
      refine lv_sipush (v := 1000) hx hb dX7_moved_184 (by decide) ?_
      rw [hQ]
      exact W.iret (v := 1000) hx hb hr (fun t ht hW => ⟨⟨1000, (o_level, o_noRings, o_noTones, o_noFuel, o_all, o_noPieces, o_noDrags, o_code, o_cellAt, o_courseAt, o_paceAt, o_turnsAt, o_slowAt, o_fuelAt, o_ringAt, o_sums, o_shares), rfl, okS hw, by rw [ht]; exact hP, va_K.moved hW.alike hK, hD⟩, hS.F ht⟩) hS.2.2 dX7_moved_187
    · replace hw := okT hw c_9
      clear c_9
      refine lv_iconst (v := 0) hx hb dX7_moved_180 (by decide) ?_
      refine lv_goto (tgt := 187) hx hb dX7_moved_181 (by decide) ?_
      rw [hQ]
      exact W.iret (v := 0) hx hb hr (fun t ht hW => ⟨⟨0, (o_level, o_noRings, o_noTones, o_noFuel, o_all, o_noPieces, o_noDrags, o_code, o_cellAt, o_courseAt, o_paceAt, o_turnsAt, o_slowAt, o_fuelAt, o_ringAt, o_sums, o_shares), rfl, okS hw, by rw [ht]; exact hP, va_K.moved hW.alike hK, hD⟩, hS.F ht⟩) hS.2.2 dX7_moved_187
  have w162 : ∀ (v2 : Int32) (o_level : Int32) (o_noRings : Int32) (o_noTones : Int32) (o_noFuel : Int32) (o_all : Int64) (o_noPieces : Int32) (o_noDrags : Int32) (o_code : Nat → Int32) (o_cellAt : Nat → Int32) (o_courseAt : Nat → Int32) (o_paceAt : Nat → Int32) (o_turnsAt : Nat → Int32) (o_slowAt : Nat → Int32) (o_fuelAt : Nat → Int32) (o_ringAt : Nat → Int32) (o_sums : Nat → Int64) (o_shares : Nat → Int32) (H : Heap) (locs : List Loc), va_P (dC, dI) vwCl (W_X7_moved cyI cyJ cyO h_o a_o_sets a_o_ringFar a_o_ringTone a_o_currents a_o_warmths a_o_depths a_o_tape a_o_readFar a_o_readTone a_o_readSea a_o_code a_o_cellAt a_o_courseAt a_o_paceAt a_o_turnsAt a_o_slowAt a_o_fuelAt a_o_ringAt a_o_pieceParts a_o_dragCell a_o_dragBy a_o_sums a_o_shares a_o_keptFar a_o_image a_o_lanes a_o_sizes a_o_items a_o_movedItems o_taped o_at o_wrong o_level o_noRings o_noTones o_noFuel o_pieces o_drags o_all o_noPieces o_noDrags o_kept o_sets o_ringFar o_ringTone o_currents o_warmths o_code o_cellAt o_courseAt o_paceAt o_turnsAt o_slowAt o_fuelAt o_ringAt o_pieceParts o_dragCell o_dragBy o_sums o_shares) H → va_D A (W_X7_moved cyI cyJ cyO h_o a_o_sets a_o_ringFar a_o_ringTone a_o_currents a_o_warmths a_o_depths a_o_tape a_o_readFar a_o_readTone a_o_readSea a_o_code a_o_cellAt a_o_courseAt a_o_paceAt a_o_turnsAt a_o_slowAt a_o_fuelAt a_o_ringAt a_o_pieceParts a_o_dragCell a_o_dragBy a_o_sums a_o_shares a_o_keptFar a_o_image a_o_lanes a_o_sizes a_o_items a_o_movedItems o_taped o_at o_wrong o_level o_noRings o_noTones o_noFuel o_pieces o_drags o_all o_noPieces o_noDrags o_kept o_sets o_ringFar o_ringTone o_currents o_warmths o_code o_cellAt o_courseAt o_paceAt o_turnsAt o_slowAt o_fuelAt o_ringAt o_pieceParts o_dragCell o_dragBy o_sums o_shares) → va_S A s.heap H locs → ∀ (ls : Array Slot), lv_has ls 6 [(0, .ref h_o), (2, .int v2)] → okP (f_X7_moved_B162 v2 o_level o_noRings o_noTones o_noFuel o_pieces o_drags o_all o_noPieces o_noDrags o_sets o_ringFar o_ringTone o_currents o_warmths o_code o_cellAt o_courseAt o_paceAt o_turnsAt o_slowAt o_fuelAt o_ringAt o_pieceParts o_dragCell o_dragBy o_sums o_shares) post → W p l e (headSpec wsX7_moved rm_X7_moved).room s m ([.ref h_o, .int x1] : List Value).toArray below meth c H locs 0 0 Q (F0 m 162 ls []) := by
    intro v2 o_level o_noRings o_noTones o_noFuel o_all o_noPieces o_noDrags o_code o_cellAt o_courseAt o_paceAt o_turnsAt o_slowAt o_fuelAt o_ringAt o_sums o_shares H locs hP hD hS ls hl hw
    unfold f_X7_moved_B162 at hw
    refine lv_iload_n hx hb dX7_moved_162 rfl (lv_at hl 1 rfl) ?_
    refine lv_aload_n hx hb dX7_moved_163 rfl (lv_at hl 0 rfl) ?_
    refine va_get (D := (dC, dI)) (ci := 7) (v := .long o_all) (C := RX7) (T := TX7) (N := 42) hx hb hts hi7 hown hK hP 0 rfl rfl 31 (by decide) hq3 (fun _ h9 => h9) rfl dX7_moved_164 ?_
    refine lv_lconst (v := 0) hx hb dX7_moved_167 (by decide) ?_
    refine W.lcmp hx hb dX7_moved_168 ?_
    refine lv_if_le (tgt := 176) hx hb dX7_moved_169 (by decide) (fun c_10 => ?_) (fun c_10 => ?_)
    · replace hw := okT hw c_10
      clear c_10
      refine lv_iconst (v := 0) hx hb dX7_moved_176 (by decide) ?_
      exact w177 0 v2 o_level o_noRings o_noTones o_noFuel o_all o_noPieces o_noDrags o_code o_cellAt o_courseAt o_paceAt o_turnsAt o_slowAt o_fuelAt o_ringAt o_sums o_shares _ _ hP hD hS _ (lv_sub hl [] rfl) hw
    · replace hw := okF hw c_10
      clear c_10
      refine lv_iconst (v := 1) hx hb dX7_moved_172 (by decide) ?_
      refine lv_goto (tgt := 177) hx hb dX7_moved_173 (by decide) ?_
      exact w177 1 v2 o_level o_noRings o_noTones o_noFuel o_all o_noPieces o_noDrags o_code o_cellAt o_courseAt o_paceAt o_turnsAt o_slowAt o_fuelAt o_ringAt o_sums o_shares _ _ hP hD hS _ (lv_sub hl [] rfl) hw
  have w142 : ∀ (v2 : Int32) (y0 : Int32) (o_level : Int32) (o_noRings : Int32) (o_noTones : Int32) (o_noFuel : Int32) (o_all : Int64) (o_noPieces : Int32) (o_noDrags : Int32) (o_code : Nat → Int32) (o_cellAt : Nat → Int32) (o_courseAt : Nat → Int32) (o_paceAt : Nat → Int32) (o_turnsAt : Nat → Int32) (o_slowAt : Nat → Int32) (o_fuelAt : Nat → Int32) (o_ringAt : Nat → Int32) (o_sums : Nat → Int64) (o_shares : Nat → Int32) (H : Heap) (locs : List Loc), va_P (dC, dI) vwCl (W_X7_moved cyI cyJ cyO h_o a_o_sets a_o_ringFar a_o_ringTone a_o_currents a_o_warmths a_o_depths a_o_tape a_o_readFar a_o_readTone a_o_readSea a_o_code a_o_cellAt a_o_courseAt a_o_paceAt a_o_turnsAt a_o_slowAt a_o_fuelAt a_o_ringAt a_o_pieceParts a_o_dragCell a_o_dragBy a_o_sums a_o_shares a_o_keptFar a_o_image a_o_lanes a_o_sizes a_o_items a_o_movedItems o_taped o_at o_wrong o_level o_noRings o_noTones o_noFuel o_pieces o_drags o_all o_noPieces o_noDrags o_kept o_sets o_ringFar o_ringTone o_currents o_warmths o_code o_cellAt o_courseAt o_paceAt o_turnsAt o_slowAt o_fuelAt o_ringAt o_pieceParts o_dragCell o_dragBy o_sums o_shares) H → va_D A (W_X7_moved cyI cyJ cyO h_o a_o_sets a_o_ringFar a_o_ringTone a_o_currents a_o_warmths a_o_depths a_o_tape a_o_readFar a_o_readTone a_o_readSea a_o_code a_o_cellAt a_o_courseAt a_o_paceAt a_o_turnsAt a_o_slowAt a_o_fuelAt a_o_ringAt a_o_pieceParts a_o_dragCell a_o_dragBy a_o_sums a_o_shares a_o_keptFar a_o_image a_o_lanes a_o_sizes a_o_items a_o_movedItems o_taped o_at o_wrong o_level o_noRings o_noTones o_noFuel o_pieces o_drags o_all o_noPieces o_noDrags o_kept o_sets o_ringFar o_ringTone o_currents o_warmths o_code o_cellAt o_courseAt o_paceAt o_turnsAt o_slowAt o_fuelAt o_ringAt o_pieceParts o_dragCell o_dragBy o_sums o_shares) → va_S A s.heap H locs → ∀ (ls : Array Slot), lv_has ls 6 [(0, .ref h_o), (2, .int v2)] → okP (f_X7_moved_B142 v2 y0 o_level o_noRings o_noTones o_noFuel o_pieces o_drags o_all o_noPieces o_noDrags o_sets o_ringFar o_ringTone o_currents o_warmths o_code o_cellAt o_courseAt o_paceAt o_turnsAt o_slowAt o_fuelAt o_ringAt o_pieceParts o_dragCell o_dragBy o_sums o_shares) post → W p l e (headSpec wsX7_moved rm_X7_moved).room s m ([.ref h_o, .int x1] : List Value).toArray below meth c H locs 0 0 Q (F0 m 142 ls [.int y0, .ref h_o]) := by
    intro v2 y0 o_level o_noRings o_noTones o_noFuel o_all o_noPieces o_noDrags o_code o_cellAt o_courseAt o_paceAt o_turnsAt o_slowAt o_fuelAt o_ringAt o_sums o_shares H locs hP hD hS ls hl hw
    unfold f_X7_moved_B142 at hw
    obtain ⟨h_11, hw⟩ := okC hw
    refine va_put (D := (dC, dI)) (ci := 7) (v := .int y0) (ty := .boolean) (C := RX7) (T := TX7) (N := 42) hx hb hts hi7 tyX7 tyX7_ok nmX7 hown hK hP hD hS 0 rfl rfl 33 (by decide) hq4 (fun _ h9 => h9) rfl (by decide +kernel) (nbZ h_11) (ftZ h_11) (Nat.le_of_ble_eq_true rfl) dX7_moved_142 (fun H locs hP hD hS => ?_)
    have hP : va_P (dC, dI) vwCl (W_X7_moved cyI cyJ cyO h_o a_o_sets a_o_ringFar a_o_ringTone a_o_currents a_o_warmths a_o_depths a_o_tape a_o_readFar a_o_readTone a_o_readSea a_o_code a_o_cellAt a_o_courseAt a_o_paceAt a_o_turnsAt a_o_slowAt a_o_fuelAt a_o_ringAt a_o_pieceParts a_o_dragCell a_o_dragBy a_o_sums a_o_shares a_o_keptFar a_o_image a_o_lanes a_o_sizes a_o_items a_o_movedItems o_taped o_at o_wrong o_level o_noRings o_noTones o_noFuel o_pieces o_drags o_all o_noPieces y0 o_kept o_sets o_ringFar o_ringTone o_currents o_warmths o_code o_cellAt o_courseAt o_paceAt o_turnsAt o_slowAt o_fuelAt o_ringAt o_pieceParts o_dragCell o_dragBy o_sums o_shares) H := hP
    have hD : va_D A (W_X7_moved cyI cyJ cyO h_o a_o_sets a_o_ringFar a_o_ringTone a_o_currents a_o_warmths a_o_depths a_o_tape a_o_readFar a_o_readTone a_o_readSea a_o_code a_o_cellAt a_o_courseAt a_o_paceAt a_o_turnsAt a_o_slowAt a_o_fuelAt a_o_ringAt a_o_pieceParts a_o_dragCell a_o_dragBy a_o_sums a_o_shares a_o_keptFar a_o_image a_o_lanes a_o_sizes a_o_items a_o_movedItems o_taped o_at o_wrong o_level o_noRings o_noTones o_noFuel o_pieces o_drags o_all o_noPieces y0 o_kept o_sets o_ringFar o_ringTone o_currents o_warmths o_code o_cellAt o_courseAt o_paceAt o_turnsAt o_slowAt o_fuelAt o_ringAt o_pieceParts o_dragCell o_dragBy o_sums o_shares) := hD
    refine lv_aload_n hx hb dX7_moved_145 rfl (lv_at hl 0 rfl) ?_
    have hPc := hP.sub (ws' := (W_X7_ends cyI cyJ cyO h_o a_o_sets a_o_ringFar a_o_ringTone a_o_currents a_o_warmths a_o_depths a_o_tape a_o_readFar a_o_readTone a_o_readSea a_o_code a_o_cellAt a_o_courseAt a_o_paceAt a_o_turnsAt a_o_slowAt a_o_fuelAt a_o_ringAt a_o_pieceParts a_o_dragCell a_o_dragBy a_o_sums a_o_shares a_o_keptFar a_o_image a_o_lanes a_o_sizes a_o_items a_o_movedItems o_taped o_at o_wrong o_level o_noRings o_noTones o_noFuel o_pieces o_drags o_all o_noPieces y0 o_kept o_sets o_ringFar o_ringTone o_currents o_warmths o_code o_cellAt o_courseAt o_paceAt o_turnsAt o_slowAt o_fuelAt o_ringAt o_pieceParts o_dragCell o_dragBy o_sums)) [0, 1, 2, 3, 4, 5, 6, 7, 8, 9, 10, 11, 12, 13, 14, 15, 16, 17] rfl
    have hDc := hD.sub (ws' := (W_X7_ends cyI cyJ cyO h_o a_o_sets a_o_ringFar a_o_ringTone a_o_currents a_o_warmths a_o_depths a_o_tape a_o_readFar a_o_readTone a_o_readSea a_o_code a_o_cellAt a_o_courseAt a_o_paceAt a_o_turnsAt a_o_slowAt a_o_fuelAt a_o_ringAt a_o_pieceParts a_o_dragCell a_o_dragBy a_o_sums a_o_shares a_o_keptFar a_o_image a_o_lanes a_o_sizes a_o_items a_o_movedItems o_taped o_at o_wrong o_level o_noRings o_noTones o_noFuel o_pieces o_drags o_all o_noPieces y0 o_kept o_sets o_ringFar o_ringTone o_currents o_warmths o_code o_cellAt o_courseAt o_paceAt o_turnsAt o_slowAt o_fuelAt o_ringAt o_pieceParts o_dragCell o_dragBy o_sums)) [0, 1, 2, 3, 4, 5, 6, 7, 8, 9, 10, 11, 12, 13, 14, 15, 16, 17] (by decide +kernel) rfl
    have hFc := va_free (wc := (W_X7_ends cyI cyJ cyO h_o a_o_sets a_o_ringFar a_o_ringTone a_o_currents a_o_warmths a_o_depths a_o_tape a_o_readFar a_o_readTone a_o_readSea a_o_code a_o_cellAt a_o_courseAt a_o_paceAt a_o_turnsAt a_o_slowAt a_o_fuelAt a_o_ringAt a_o_pieceParts a_o_dragCell a_o_dragBy a_o_sums a_o_shares a_o_keptFar a_o_image a_o_lanes a_o_sizes a_o_items a_o_movedItems o_taped o_at o_wrong o_level o_noRings o_noTones o_noFuel o_pieces o_drags o_all o_noPieces y0 o_kept o_sets o_ringFar o_ringTone o_currents o_warmths o_code o_cellAt o_courseAt o_paceAt o_turnsAt o_slowAt o_fuelAt o_ringAt o_pieceParts o_dragCell o_dragBy o_sums)) hD hS hA [0, 1, 2, 3, 4, 5, 6, 7, 8, 9, 10, 11, 12, 13, 14, 15, 16, 17] rfl
    refine kc_v (wr := [(a_o_shares, .inl (cyI, 100, .inl o_shares))]) (va_runV (As := []) (rest := []) ⟨hx, hb, hml, hown, hts⟩ (c_X7_ends l dC dI cyI cyJ cyO H.size h_o a_o_sets a_o_ringFar a_o_ringTone a_o_currents a_o_warmths a_o_depths a_o_tape a_o_readFar a_o_readTone a_o_readSea a_o_code a_o_cellAt a_o_courseAt a_o_paceAt a_o_turnsAt a_o_slowAt a_o_fuelAt a_o_ringAt a_o_pieceParts a_o_dragCell a_o_dragBy a_o_sums a_o_shares a_o_keptFar a_o_image a_o_lanes a_o_sizes a_o_items a_o_movedItems o_taped o_at o_wrong o_level o_noRings o_noTones o_noFuel o_pieces o_drags o_all o_noPieces y0 o_kept o_sets o_ringFar o_ringTone o_currents o_warmths o_code o_cellAt o_courseAt o_paceAt o_turnsAt o_slowAt o_fuelAt o_ringAt o_pieceParts o_dragCell o_dragBy o_sums _ (okb11 hw)) (cwV 0 hts (gdV (fun w h => List.mem_cons_of_mem _ h) q_995 q_997 qs_39 q_8 q_998) rfl rfl rfl (by decide +kernel) ⟨Nat.le_of_ble_eq_true rfl, Nat.le_of_ble_eq_true rfl⟩) ⟨(kpre zN_ok hK hPc hDc trivial hS hFc).1, va_recv hK hP (ci := 7) (q0 := 0) rfl rfl, (kpre zN_ok hK hPc hDc trivial hS hFc).2⟩ rfl rfl hl.1 rfl (lv_room (Nat.le_of_ble_eq_true rfl)) dX7_moved_146 ⟨Nat.le_of_ble_eq_true rfl, Nat.le_of_ble_eq_true rfl⟩) hP hD hS hFc [0, 1, 2, 3, 4, 5, 6, 7, 8, 9, 10, 11, 12, 13, 14, 15, 16, 17] [18] rfl rfl (by decide +kernel) (by decide +kernel) (fun u H locs hw hP hD hS => ?_)
    obtain ⟨w_12, w_13, w_14, w_15, w_16, w_17, w_18, w_19, w_20, w_21, w_22⟩ := u
    try dsimp only at hw
    have hP : va_P (dC, dI) vwCl (W_X7_moved cyI cyJ cyO h_o a_o_sets a_o_ringFar a_o_ringTone a_o_currents a_o_warmths a_o_depths a_o_tape a_o_readFar a_o_readTone a_o_readSea a_o_code a_o_cellAt a_o_courseAt a_o_paceAt a_o_turnsAt a_o_slowAt a_o_fuelAt a_o_ringAt a_o_pieceParts a_o_dragCell a_o_dragBy a_o_sums a_o_shares a_o_keptFar a_o_image a_o_lanes a_o_sizes a_o_items a_o_movedItems o_taped o_at o_wrong w_12 o_noRings o_noTones o_noFuel o_pieces o_drags w_13 o_noPieces y0 o_kept o_sets o_ringFar o_ringTone o_currents o_warmths w_14 w_15 w_16 w_17 w_18 w_19 w_20 w_21 o_pieceParts o_dragCell o_dragBy w_22 o_shares) H := hP.sub [1, 2, 3, 4, 5, 6, 7, 8, 9, 10, 11, 12, 13, 14, 15, 16, 17, 18, 0] rfl
    have hD : va_D A (W_X7_moved cyI cyJ cyO h_o a_o_sets a_o_ringFar a_o_ringTone a_o_currents a_o_warmths a_o_depths a_o_tape a_o_readFar a_o_readTone a_o_readSea a_o_code a_o_cellAt a_o_courseAt a_o_paceAt a_o_turnsAt a_o_slowAt a_o_fuelAt a_o_ringAt a_o_pieceParts a_o_dragCell a_o_dragBy a_o_sums a_o_shares a_o_keptFar a_o_image a_o_lanes a_o_sizes a_o_items a_o_movedItems o_taped o_at o_wrong w_12 o_noRings o_noTones o_noFuel o_pieces o_drags w_13 o_noPieces y0 o_kept o_sets o_ringFar o_ringTone o_currents o_warmths w_14 w_15 w_16 w_17 w_18 w_19 w_20 w_21 o_pieceParts o_dragCell o_dragBy w_22 o_shares) := hD.sub [1, 2, 3, 4, 5, 6, 7, 8, 9, 10, 11, 12, 13, 14, 15, 16, 17, 18, 0] (by decide +kernel) rfl
    clear hPc hDc hFc
    refine lv_iload_n hx hb dX7_moved_149 rfl (lv_at hl 1 rfl) ?_
    refine lv_if_eq (tgt := 162) hx hb dX7_moved_150 (by decide) (fun c_23 => ?_) (fun c_23 => ?_)
    · replace hw := okT hw c_23
      clear c_23
      exact w162 v2 w_12 o_noRings o_noTones o_noFuel w_13 o_noPieces y0 w_14 w_15 w_16 w_17 w_18 w_19 w_20 w_21 w_22 o_shares _ _ hP hD hS _ (lv_sub hl [0, 1] rfl) hw
    · replace hw := okF hw c_23
      clear c_23
      refine lv_aload_n hx hb dX7_moved_153 rfl (lv_at hl 0 rfl) ?_
      refine va_get (D := (dC, dI)) (ci := 7) (v := .long w_13) (C := RX7) (T := TX7) (N := 42) hx hb hts hi7 hown hK hP 0 rfl rfl 31 (by decide) hq3 (fun _ h9 => h9) rfl dX7_moved_154 ?_
      refine lv_lconst (v := 0) hx hb dX7_moved_157 (by decide) ?_
      refine W.lcmp hx hb dX7_moved_158 ?_
      refine lv_if_ne (tgt := 188) hx hb dX7_moved_159 (by decide) (fun c_24 => ?_) (fun c_24 => ?_)
      · replace hw := okF hw c_24
        clear c_24
        refine lv_iconst (v := 0) hx hb dX7_moved_188 (by decide) ?_
        refine lv_istore_n (lv' := [(3, .int 0), (0, .ref h_o), (2, .int v2)]) hx hb dX7_moved_189 rfl hl (by decide) rfl (fun ls hl => ?_)
        refine lv_iconst (v := 0) hx hb dX7_moved_190 (by decide) ?_
        refine lv_istore (lv' := [(4, .int 0), (3, .int 0), (0, .ref h_o), (2, .int v2)]) hx hb dX7_moved_191 hl (by decide) rfl (fun ls hl => ?_)
        exact w193 FU 0 0 w_12 o_noRings o_noTones o_noFuel w_13 o_noPieces y0 w_14 w_15 w_16 w_17 w_18 w_19 w_20 w_21 w_22 o_shares _ _ hP hD hS _ (lv_sub hl [2, 1, 0] rfl) hw
      · replace hw := okT hw c_24
        clear c_24
        exact w162 v2 w_12 o_noRings o_noTones o_noFuel w_13 o_noPieces y0 w_14 w_15 w_16 w_17 w_18 w_19 w_20 w_21 w_22 o_shares _ _ hP hD hS _ (lv_sub hl [0, 1] rfl) hw
  have w127 : ∀ (v1 : Int32) (v2 : Int32) (y0 : Int32) (o_level : Int32) (o_noRings : Int32) (o_noTones : Int32) (o_noFuel : Int32) (o_all : Int64) (o_noPieces : Int32) (o_noDrags : Int32) (o_code : Nat → Int32) (o_cellAt : Nat → Int32) (o_courseAt : Nat → Int32) (o_paceAt : Nat → Int32) (o_turnsAt : Nat → Int32) (o_slowAt : Nat → Int32) (o_fuelAt : Nat → Int32) (o_ringAt : Nat → Int32) (o_sums : Nat → Int64) (o_shares : Nat → Int32) (H : Heap) (locs : List Loc), va_P (dC, dI) vwCl (W_X7_moved cyI cyJ cyO h_o a_o_sets a_o_ringFar a_o_ringTone a_o_currents a_o_warmths a_o_depths a_o_tape a_o_readFar a_o_readTone a_o_readSea a_o_code a_o_cellAt a_o_courseAt a_o_paceAt a_o_turnsAt a_o_slowAt a_o_fuelAt a_o_ringAt a_o_pieceParts a_o_dragCell a_o_dragBy a_o_sums a_o_shares a_o_keptFar a_o_image a_o_lanes a_o_sizes a_o_items a_o_movedItems o_taped o_at o_wrong o_level o_noRings o_noTones o_noFuel o_pieces o_drags o_all o_noPieces o_noDrags o_kept o_sets o_ringFar o_ringTone o_currents o_warmths o_code o_cellAt o_courseAt o_paceAt o_turnsAt o_slowAt o_fuelAt o_ringAt o_pieceParts o_dragCell o_dragBy o_sums o_shares) H → va_D A (W_X7_moved cyI cyJ cyO h_o a_o_sets a_o_ringFar a_o_ringTone a_o_currents a_o_warmths a_o_depths a_o_tape a_o_readFar a_o_readTone a_o_readSea a_o_code a_o_cellAt a_o_courseAt a_o_paceAt a_o_turnsAt a_o_slowAt a_o_fuelAt a_o_ringAt a_o_pieceParts a_o_dragCell a_o_dragBy a_o_sums a_o_shares a_o_keptFar a_o_image a_o_lanes a_o_sizes a_o_items a_o_movedItems o_taped o_at o_wrong o_level o_noRings o_noTones o_noFuel o_pieces o_drags o_all o_noPieces o_noDrags o_kept o_sets o_ringFar o_ringTone o_currents o_warmths o_code o_cellAt o_courseAt o_paceAt o_turnsAt o_slowAt o_fuelAt o_ringAt o_pieceParts o_dragCell o_dragBy o_sums o_shares) → va_S A s.heap H locs → ∀ (ls : Array Slot), lv_has ls 6 [(0, .ref h_o), (1, .int v1), (2, .int v2)] → okP (f_X7_moved_B127 v1 v2 y0 o_level o_noRings o_noTones o_noFuel o_pieces o_drags o_all o_noPieces o_noDrags o_sets o_ringFar o_ringTone o_currents o_warmths o_code o_cellAt o_courseAt o_paceAt o_turnsAt o_slowAt o_fuelAt o_ringAt o_pieceParts o_dragCell o_dragBy o_sums o_shares) post → W p l e (headSpec wsX7_moved rm_X7_moved).room s m ([.ref h_o, .int x1] : List Value).toArray below meth c H locs 0 0 Q (F0 m 127 ls [.int y0, .ref h_o]) := by
    intro v1 v2 y0 o_level o_noRings o_noTones o_noFuel o_all o_noPieces o_noDrags o_code o_cellAt o_courseAt o_paceAt o_turnsAt o_slowAt o_fuelAt o_ringAt o_sums o_shares H locs hP hD hS ls hl hw
    unfold f_X7_moved_B127 at hw
    refine va_put (D := (dC, dI)) (ci := 7) (v := .int y0) (ty := .int) (C := RX7) (T := TX7) (N := 42) hx hb hts hi7 tyX7 tyX7_ok nmX7 hown hK hP hD hS 0 rfl rfl 32 (by decide) hq5 (fun _ h9 => h9) rfl (by decide +kernel) rfl rfl (Nat.le_of_ble_eq_true rfl) dX7_moved_127 (fun H locs hP hD hS => ?_)
    have hP : va_P (dC, dI) vwCl (W_X7_moved cyI cyJ cyO h_o a_o_sets a_o_ringFar a_o_ringTone a_o_currents a_o_warmths a_o_depths a_o_tape a_o_readFar a_o_readTone a_o_readSea a_o_code a_o_cellAt a_o_courseAt a_o_paceAt a_o_turnsAt a_o_slowAt a_o_fuelAt a_o_ringAt a_o_pieceParts a_o_dragCell a_o_dragBy a_o_sums a_o_shares a_o_keptFar a_o_image a_o_lanes a_o_sizes a_o_items a_o_movedItems o_taped o_at o_wrong o_level o_noRings o_noTones o_noFuel o_pieces o_drags o_all y0 o_noDrags o_kept o_sets o_ringFar o_ringTone o_currents o_warmths o_code o_cellAt o_courseAt o_paceAt o_turnsAt o_slowAt o_fuelAt o_ringAt o_pieceParts o_dragCell o_dragBy o_sums o_shares) H := hP
    have hD : va_D A (W_X7_moved cyI cyJ cyO h_o a_o_sets a_o_ringFar a_o_ringTone a_o_currents a_o_warmths a_o_depths a_o_tape a_o_readFar a_o_readTone a_o_readSea a_o_code a_o_cellAt a_o_courseAt a_o_paceAt a_o_turnsAt a_o_slowAt a_o_fuelAt a_o_ringAt a_o_pieceParts a_o_dragCell a_o_dragBy a_o_sums a_o_shares a_o_keptFar a_o_image a_o_lanes a_o_sizes a_o_items a_o_movedItems o_taped o_at o_wrong o_level o_noRings o_noTones o_noFuel o_pieces o_drags o_all y0 o_noDrags o_kept o_sets o_ringFar o_ringTone o_currents o_warmths o_code o_cellAt o_courseAt o_paceAt o_turnsAt o_slowAt o_fuelAt o_ringAt o_pieceParts o_dragCell o_dragBy o_sums o_shares) := hD
    refine lv_aload_n hx hb dX7_moved_130 rfl (lv_at hl 0 rfl) ?_
    refine lv_iload_n hx hb dX7_moved_131 rfl (lv_at hl 1 rfl) ?_
    refine lv_bipush (v := 12) hx hb dX7_moved_132 (by decide) ?_
    refine lv_icmp_ne (tgt := 141) hx hb dX7_moved_134 (by decide) (fun c_25 => ?_) (fun c_25 => ?_)
    · replace hw := okF hw c_25
      clear c_25
      refine lv_iconst (v := 0) hx hb dX7_moved_141 (by decide) ?_
      exact w142 v2 0 o_level o_noRings o_noTones o_noFuel o_all y0 o_noDrags o_code o_cellAt o_courseAt o_paceAt o_turnsAt o_slowAt o_fuelAt o_ringAt o_sums o_shares _ _ hP hD hS _ (lv_sub hl [0, 2] rfl) hw
    · replace hw := okT hw c_25
      clear c_25
      refine lv_iconst (v := 1) hx hb dX7_moved_137 (by decide) ?_
      refine lv_goto (tgt := 142) hx hb dX7_moved_138 (by decide) ?_
      exact w142 v2 1 o_level o_noRings o_noTones o_noFuel o_all y0 o_noDrags o_code o_cellAt o_courseAt o_paceAt o_turnsAt o_slowAt o_fuelAt o_ringAt o_sums o_shares _ _ hP hD hS _ (lv_sub hl [0, 2] rfl) hw
  have w126 : ∀ (v1 : Int32) (v2 : Int32) (o_level : Int32) (o_noRings : Int32) (o_noTones : Int32) (o_noFuel : Int32) (o_all : Int64) (o_noPieces : Int32) (o_noDrags : Int32) (o_code : Nat → Int32) (o_cellAt : Nat → Int32) (o_courseAt : Nat → Int32) (o_paceAt : Nat → Int32) (o_turnsAt : Nat → Int32) (o_slowAt : Nat → Int32) (o_fuelAt : Nat → Int32) (o_ringAt : Nat → Int32) (o_sums : Nat → Int64) (o_shares : Nat → Int32) (H : Heap) (locs : List Loc), va_P (dC, dI) vwCl (W_X7_moved cyI cyJ cyO h_o a_o_sets a_o_ringFar a_o_ringTone a_o_currents a_o_warmths a_o_depths a_o_tape a_o_readFar a_o_readTone a_o_readSea a_o_code a_o_cellAt a_o_courseAt a_o_paceAt a_o_turnsAt a_o_slowAt a_o_fuelAt a_o_ringAt a_o_pieceParts a_o_dragCell a_o_dragBy a_o_sums a_o_shares a_o_keptFar a_o_image a_o_lanes a_o_sizes a_o_items a_o_movedItems o_taped o_at o_wrong o_level o_noRings o_noTones o_noFuel o_pieces o_drags o_all o_noPieces o_noDrags o_kept o_sets o_ringFar o_ringTone o_currents o_warmths o_code o_cellAt o_courseAt o_paceAt o_turnsAt o_slowAt o_fuelAt o_ringAt o_pieceParts o_dragCell o_dragBy o_sums o_shares) H → va_D A (W_X7_moved cyI cyJ cyO h_o a_o_sets a_o_ringFar a_o_ringTone a_o_currents a_o_warmths a_o_depths a_o_tape a_o_readFar a_o_readTone a_o_readSea a_o_code a_o_cellAt a_o_courseAt a_o_paceAt a_o_turnsAt a_o_slowAt a_o_fuelAt a_o_ringAt a_o_pieceParts a_o_dragCell a_o_dragBy a_o_sums a_o_shares a_o_keptFar a_o_image a_o_lanes a_o_sizes a_o_items a_o_movedItems o_taped o_at o_wrong o_level o_noRings o_noTones o_noFuel o_pieces o_drags o_all o_noPieces o_noDrags o_kept o_sets o_ringFar o_ringTone o_currents o_warmths o_code o_cellAt o_courseAt o_paceAt o_turnsAt o_slowAt o_fuelAt o_ringAt o_pieceParts o_dragCell o_dragBy o_sums o_shares) → va_S A s.heap H locs → ∀ (ls : Array Slot), lv_has ls 6 [(0, .ref h_o), (1, .int v1), (2, .int v2)] → okP (f_X7_moved_B126 v1 v2 o_level o_noRings o_noTones o_noFuel o_pieces o_drags o_all o_noPieces o_noDrags o_sets o_ringFar o_ringTone o_currents o_warmths o_code o_cellAt o_courseAt o_paceAt o_turnsAt o_slowAt o_fuelAt o_ringAt o_pieceParts o_dragCell o_dragBy o_sums o_shares) post → W p l e (headSpec wsX7_moved rm_X7_moved).room s m ([.ref h_o, .int x1] : List Value).toArray below meth c H locs 0 0 Q (F0 m 126 ls [.ref h_o]) := by
    intro v1 v2 o_level o_noRings o_noTones o_noFuel o_all o_noPieces o_noDrags o_code o_cellAt o_courseAt o_paceAt o_turnsAt o_slowAt o_fuelAt o_ringAt o_sums o_shares H locs hP hD hS ls hl hw
    unfold f_X7_moved_B126 at hw
    refine lv_iconst (v := 0) hx hb dX7_moved_126 (by decide) ?_
    exact w127 v1 v2 0 o_level o_noRings o_noTones o_noFuel o_all o_noPieces o_noDrags o_code o_cellAt o_courseAt o_paceAt o_turnsAt o_slowAt o_fuelAt o_ringAt o_sums o_shares _ _ hP hD hS _ (lv_sub hl [0, 1, 2] rfl) hw
  have w101 : ∀ (v1 : Int32) (v2 : Int32) (y0 : Int32) (o_level : Int32) (o_noRings : Int32) (o_noTones : Int32) (o_noFuel : Int32) (o_all : Int64) (o_noPieces : Int32) (o_noDrags : Int32) (o_code : Nat → Int32) (o_cellAt : Nat → Int32) (o_courseAt : Nat → Int32) (o_paceAt : Nat → Int32) (o_turnsAt : Nat → Int32) (o_slowAt : Nat → Int32) (o_fuelAt : Nat → Int32) (o_ringAt : Nat → Int32) (o_sums : Nat → Int64) (o_shares : Nat → Int32) (H : Heap) (locs : List Loc), va_P (dC, dI) vwCl (W_X7_moved cyI cyJ cyO h_o a_o_sets a_o_ringFar a_o_ringTone a_o_currents a_o_warmths a_o_depths a_o_tape a_o_readFar a_o_readTone a_o_readSea a_o_code a_o_cellAt a_o_courseAt a_o_paceAt a_o_turnsAt a_o_slowAt a_o_fuelAt a_o_ringAt a_o_pieceParts a_o_dragCell a_o_dragBy a_o_sums a_o_shares a_o_keptFar a_o_image a_o_lanes a_o_sizes a_o_items a_o_movedItems o_taped o_at o_wrong o_level o_noRings o_noTones o_noFuel o_pieces o_drags o_all o_noPieces o_noDrags o_kept o_sets o_ringFar o_ringTone o_currents o_warmths o_code o_cellAt o_courseAt o_paceAt o_turnsAt o_slowAt o_fuelAt o_ringAt o_pieceParts o_dragCell o_dragBy o_sums o_shares) H → va_D A (W_X7_moved cyI cyJ cyO h_o a_o_sets a_o_ringFar a_o_ringTone a_o_currents a_o_warmths a_o_depths a_o_tape a_o_readFar a_o_readTone a_o_readSea a_o_code a_o_cellAt a_o_courseAt a_o_paceAt a_o_turnsAt a_o_slowAt a_o_fuelAt a_o_ringAt a_o_pieceParts a_o_dragCell a_o_dragBy a_o_sums a_o_shares a_o_keptFar a_o_image a_o_lanes a_o_sizes a_o_items a_o_movedItems o_taped o_at o_wrong o_level o_noRings o_noTones o_noFuel o_pieces o_drags o_all o_noPieces o_noDrags o_kept o_sets o_ringFar o_ringTone o_currents o_warmths o_code o_cellAt o_courseAt o_paceAt o_turnsAt o_slowAt o_fuelAt o_ringAt o_pieceParts o_dragCell o_dragBy o_sums o_shares) → va_S A s.heap H locs → ∀ (ls : Array Slot), lv_has ls 6 [(0, .ref h_o), (1, .int v1), (2, .int v2)] → okP (f_X7_moved_B101 v1 v2 y0 o_level o_noRings o_noTones o_noFuel o_pieces o_drags o_all o_noPieces o_noDrags o_sets o_ringFar o_ringTone o_currents o_warmths o_code o_cellAt o_courseAt o_paceAt o_turnsAt o_slowAt o_fuelAt o_ringAt o_pieceParts o_dragCell o_dragBy o_sums o_shares) post → W p l e (headSpec wsX7_moved rm_X7_moved).room s m ([.ref h_o, .int x1] : List Value).toArray below meth c H locs 0 0 Q (F0 m 101 ls [.int y0, .ref h_o]) := by
    intro v1 v2 y0 o_level o_noRings o_noTones o_noFuel o_all o_noPieces o_noDrags o_code o_cellAt o_courseAt o_paceAt o_turnsAt o_slowAt o_fuelAt o_ringAt o_sums o_shares H locs hP hD hS ls hl hw
    unfold f_X7_moved_B101 at hw
    obtain ⟨h_26, hw⟩ := okC hw
    refine va_put (D := (dC, dI)) (ci := 7) (v := .int y0) (ty := .boolean) (C := RX7) (T := TX7) (N := 42) hx hb hts hi7 tyX7 tyX7_ok nmX7 hown hK hP hD hS 0 rfl rfl 24 (by decide) hq6 (fun _ h9 => h9) rfl (by decide +kernel) (nbZ h_26) (ftZ h_26) (Nat.le_of_ble_eq_true rfl) dX7_moved_101 (fun H locs hP hD hS => ?_)
    have hP : va_P (dC, dI) vwCl (W_X7_moved cyI cyJ cyO h_o a_o_sets a_o_ringFar a_o_ringTone a_o_currents a_o_warmths a_o_depths a_o_tape a_o_readFar a_o_readTone a_o_readSea a_o_code a_o_cellAt a_o_courseAt a_o_paceAt a_o_turnsAt a_o_slowAt a_o_fuelAt a_o_ringAt a_o_pieceParts a_o_dragCell a_o_dragBy a_o_sums a_o_shares a_o_keptFar a_o_image a_o_lanes a_o_sizes a_o_items a_o_movedItems o_taped o_at o_wrong o_level o_noRings o_noTones y0 o_pieces o_drags o_all o_noPieces o_noDrags o_kept o_sets o_ringFar o_ringTone o_currents o_warmths o_code o_cellAt o_courseAt o_paceAt o_turnsAt o_slowAt o_fuelAt o_ringAt o_pieceParts o_dragCell o_dragBy o_sums o_shares) H := hP
    have hD : va_D A (W_X7_moved cyI cyJ cyO h_o a_o_sets a_o_ringFar a_o_ringTone a_o_currents a_o_warmths a_o_depths a_o_tape a_o_readFar a_o_readTone a_o_readSea a_o_code a_o_cellAt a_o_courseAt a_o_paceAt a_o_turnsAt a_o_slowAt a_o_fuelAt a_o_ringAt a_o_pieceParts a_o_dragCell a_o_dragBy a_o_sums a_o_shares a_o_keptFar a_o_image a_o_lanes a_o_sizes a_o_items a_o_movedItems o_taped o_at o_wrong o_level o_noRings o_noTones y0 o_pieces o_drags o_all o_noPieces o_noDrags o_kept o_sets o_ringFar o_ringTone o_currents o_warmths o_code o_cellAt o_courseAt o_paceAt o_turnsAt o_slowAt o_fuelAt o_ringAt o_pieceParts o_dragCell o_dragBy o_sums o_shares) := hD
    refine lv_aload_n hx hb dX7_moved_104 rfl (lv_at hl 0 rfl) ?_
    refine lv_iload_n hx hb dX7_moved_105 rfl (lv_at hl 1 rfl) ?_
    refine lv_bipush (v := 7) hx hb dX7_moved_106 (by decide) ?_
    refine lv_icmp_le (tgt := 126) hx hb dX7_moved_108 (by decide) (fun c_27 => ?_) (fun c_27 => ?_)
    · replace hw := okT hw c_27
      clear c_27
      exact w126 v1 v2 o_level o_noRings o_noTones y0 o_all o_noPieces o_noDrags o_code o_cellAt o_courseAt o_paceAt o_turnsAt o_slowAt o_fuelAt o_ringAt o_sums o_shares _ _ hP hD hS _ (lv_sub hl [0, 1, 2] rfl) hw
    · replace hw := okF hw c_27
      clear c_27
      refine lv_iload_n hx hb dX7_moved_111 rfl (lv_at hl 1 rfl) ?_
      refine lv_bipush (v := 12) hx hb dX7_moved_112 (by decide) ?_
      refine lv_icmp_ge (tgt := 126) hx hb dX7_moved_114 (by decide) (fun c_28 => ?_) (fun c_28 => ?_)
      · replace hw := okT hw c_28
        clear c_28
        exact w126 v1 v2 o_level o_noRings o_noTones y0 o_all o_noPieces o_noDrags o_code o_cellAt o_courseAt o_paceAt o_turnsAt o_slowAt o_fuelAt o_ringAt o_sums o_shares _ _ hP hD hS _ (lv_sub hl [0, 1, 2] rfl) hw
      · replace hw := okF hw c_28
        clear c_28
        refine lv_iconst (v := 1) hx hb dX7_moved_117 (by decide) ?_
        refine lv_iload_n hx hb dX7_moved_118 rfl (lv_at hl 1 rfl) ?_
        refine lv_bipush (v := 8) hx hb dX7_moved_119 (by decide) ?_
        refine lv_isub hx hb dX7_moved_121 ?_
        refine lv_ishl hx hb dX7_moved_122 ?_
        refine lv_goto (tgt := 127) hx hb dX7_moved_123 (by decide) ?_
        exact w127 v1 v2 (1 <<< ((v1 - 8) &&& 31)) o_level o_noRings o_noTones y0 o_all o_noPieces o_noDrags o_code o_cellAt o_courseAt o_paceAt o_turnsAt o_slowAt o_fuelAt o_ringAt o_sums o_shares _ _ hP hD hS _ (lv_sub hl [0, 1, 2] rfl) hw
  have w86 : ∀ (v1 : Int32) (v2 : Int32) (y0 : Int32) (o_level : Int32) (o_noRings : Int32) (o_noTones : Int32) (o_noFuel : Int32) (o_all : Int64) (o_noPieces : Int32) (o_noDrags : Int32) (o_code : Nat → Int32) (o_cellAt : Nat → Int32) (o_courseAt : Nat → Int32) (o_paceAt : Nat → Int32) (o_turnsAt : Nat → Int32) (o_slowAt : Nat → Int32) (o_fuelAt : Nat → Int32) (o_ringAt : Nat → Int32) (o_sums : Nat → Int64) (o_shares : Nat → Int32) (H : Heap) (locs : List Loc), va_P (dC, dI) vwCl (W_X7_moved cyI cyJ cyO h_o a_o_sets a_o_ringFar a_o_ringTone a_o_currents a_o_warmths a_o_depths a_o_tape a_o_readFar a_o_readTone a_o_readSea a_o_code a_o_cellAt a_o_courseAt a_o_paceAt a_o_turnsAt a_o_slowAt a_o_fuelAt a_o_ringAt a_o_pieceParts a_o_dragCell a_o_dragBy a_o_sums a_o_shares a_o_keptFar a_o_image a_o_lanes a_o_sizes a_o_items a_o_movedItems o_taped o_at o_wrong o_level o_noRings o_noTones o_noFuel o_pieces o_drags o_all o_noPieces o_noDrags o_kept o_sets o_ringFar o_ringTone o_currents o_warmths o_code o_cellAt o_courseAt o_paceAt o_turnsAt o_slowAt o_fuelAt o_ringAt o_pieceParts o_dragCell o_dragBy o_sums o_shares) H → va_D A (W_X7_moved cyI cyJ cyO h_o a_o_sets a_o_ringFar a_o_ringTone a_o_currents a_o_warmths a_o_depths a_o_tape a_o_readFar a_o_readTone a_o_readSea a_o_code a_o_cellAt a_o_courseAt a_o_paceAt a_o_turnsAt a_o_slowAt a_o_fuelAt a_o_ringAt a_o_pieceParts a_o_dragCell a_o_dragBy a_o_sums a_o_shares a_o_keptFar a_o_image a_o_lanes a_o_sizes a_o_items a_o_movedItems o_taped o_at o_wrong o_level o_noRings o_noTones o_noFuel o_pieces o_drags o_all o_noPieces o_noDrags o_kept o_sets o_ringFar o_ringTone o_currents o_warmths o_code o_cellAt o_courseAt o_paceAt o_turnsAt o_slowAt o_fuelAt o_ringAt o_pieceParts o_dragCell o_dragBy o_sums o_shares) → va_S A s.heap H locs → ∀ (ls : Array Slot), lv_has ls 6 [(0, .ref h_o), (1, .int v1), (2, .int v2)] → okP (f_X7_moved_B86 v1 v2 y0 o_level o_noRings o_noTones o_noFuel o_pieces o_drags o_all o_noPieces o_noDrags o_sets o_ringFar o_ringTone o_currents o_warmths o_code o_cellAt o_courseAt o_paceAt o_turnsAt o_slowAt o_fuelAt o_ringAt o_pieceParts o_dragCell o_dragBy o_sums o_shares) post → W p l e (headSpec wsX7_moved rm_X7_moved).room s m ([.ref h_o, .int x1] : List Value).toArray below meth c H locs 0 0 Q (F0 m 86 ls [.int y0, .ref h_o]) := by
    intro v1 v2 y0 o_level o_noRings o_noTones o_noFuel o_all o_noPieces o_noDrags o_code o_cellAt o_courseAt o_paceAt o_turnsAt o_slowAt o_fuelAt o_ringAt o_sums o_shares H locs hP hD hS ls hl hw
    unfold f_X7_moved_B86 at hw
    obtain ⟨h_29, hw⟩ := okC hw
    refine va_put (D := (dC, dI)) (ci := 7) (v := .int y0) (ty := .boolean) (C := RX7) (T := TX7) (N := 42) hx hb hts hi7 tyX7 tyX7_ok nmX7 hown hK hP hD hS 0 rfl rfl 23 (by decide) hq7 (fun _ h9 => h9) rfl (by decide +kernel) (nbZ h_29) (ftZ h_29) (Nat.le_of_ble_eq_true rfl) dX7_moved_86 (fun H locs hP hD hS => ?_)
    have hP : va_P (dC, dI) vwCl (W_X7_moved cyI cyJ cyO h_o a_o_sets a_o_ringFar a_o_ringTone a_o_currents a_o_warmths a_o_depths a_o_tape a_o_readFar a_o_readTone a_o_readSea a_o_code a_o_cellAt a_o_courseAt a_o_paceAt a_o_turnsAt a_o_slowAt a_o_fuelAt a_o_ringAt a_o_pieceParts a_o_dragCell a_o_dragBy a_o_sums a_o_shares a_o_keptFar a_o_image a_o_lanes a_o_sizes a_o_items a_o_movedItems o_taped o_at o_wrong o_level o_noRings y0 o_noFuel o_pieces o_drags o_all o_noPieces o_noDrags o_kept o_sets o_ringFar o_ringTone o_currents o_warmths o_code o_cellAt o_courseAt o_paceAt o_turnsAt o_slowAt o_fuelAt o_ringAt o_pieceParts o_dragCell o_dragBy o_sums o_shares) H := hP
    have hD : va_D A (W_X7_moved cyI cyJ cyO h_o a_o_sets a_o_ringFar a_o_ringTone a_o_currents a_o_warmths a_o_depths a_o_tape a_o_readFar a_o_readTone a_o_readSea a_o_code a_o_cellAt a_o_courseAt a_o_paceAt a_o_turnsAt a_o_slowAt a_o_fuelAt a_o_ringAt a_o_pieceParts a_o_dragCell a_o_dragBy a_o_sums a_o_shares a_o_keptFar a_o_image a_o_lanes a_o_sizes a_o_items a_o_movedItems o_taped o_at o_wrong o_level o_noRings y0 o_noFuel o_pieces o_drags o_all o_noPieces o_noDrags o_kept o_sets o_ringFar o_ringTone o_currents o_warmths o_code o_cellAt o_courseAt o_paceAt o_turnsAt o_slowAt o_fuelAt o_ringAt o_pieceParts o_dragCell o_dragBy o_sums o_shares) := hD
    refine lv_aload_n hx hb dX7_moved_89 rfl (lv_at hl 0 rfl) ?_
    refine lv_iload_n hx hb dX7_moved_90 rfl (lv_at hl 1 rfl) ?_
    refine lv_bipush (v := 7) hx hb dX7_moved_91 (by decide) ?_
    refine lv_icmp_ne (tgt := 100) hx hb dX7_moved_93 (by decide) (fun c_30 => ?_) (fun c_30 => ?_)
    · replace hw := okF hw c_30
      clear c_30
      refine lv_iconst (v := 0) hx hb dX7_moved_100 (by decide) ?_
      exact w101 v1 v2 0 o_level o_noRings y0 o_noFuel o_all o_noPieces o_noDrags o_code o_cellAt o_courseAt o_paceAt o_turnsAt o_slowAt o_fuelAt o_ringAt o_sums o_shares _ _ hP hD hS _ (lv_sub hl [0, 1, 2] rfl) hw
    · replace hw := okT hw c_30
      clear c_30
      refine lv_iconst (v := 1) hx hb dX7_moved_96 (by decide) ?_
      refine lv_goto (tgt := 101) hx hb dX7_moved_97 (by decide) ?_
      exact w101 v1 v2 1 o_level o_noRings y0 o_noFuel o_all o_noPieces o_noDrags o_code o_cellAt o_courseAt o_paceAt o_turnsAt o_slowAt o_fuelAt o_ringAt o_sums o_shares _ _ hP hD hS _ (lv_sub hl [0, 1, 2] rfl) hw
  have w71 : ∀ (v1 : Int32) (v2 : Int32) (y0 : Int32) (o_level : Int32) (o_noRings : Int32) (o_noTones : Int32) (o_noFuel : Int32) (o_all : Int64) (o_noPieces : Int32) (o_noDrags : Int32) (o_code : Nat → Int32) (o_cellAt : Nat → Int32) (o_courseAt : Nat → Int32) (o_paceAt : Nat → Int32) (o_turnsAt : Nat → Int32) (o_slowAt : Nat → Int32) (o_fuelAt : Nat → Int32) (o_ringAt : Nat → Int32) (o_sums : Nat → Int64) (o_shares : Nat → Int32) (H : Heap) (locs : List Loc), va_P (dC, dI) vwCl (W_X7_moved cyI cyJ cyO h_o a_o_sets a_o_ringFar a_o_ringTone a_o_currents a_o_warmths a_o_depths a_o_tape a_o_readFar a_o_readTone a_o_readSea a_o_code a_o_cellAt a_o_courseAt a_o_paceAt a_o_turnsAt a_o_slowAt a_o_fuelAt a_o_ringAt a_o_pieceParts a_o_dragCell a_o_dragBy a_o_sums a_o_shares a_o_keptFar a_o_image a_o_lanes a_o_sizes a_o_items a_o_movedItems o_taped o_at o_wrong o_level o_noRings o_noTones o_noFuel o_pieces o_drags o_all o_noPieces o_noDrags o_kept o_sets o_ringFar o_ringTone o_currents o_warmths o_code o_cellAt o_courseAt o_paceAt o_turnsAt o_slowAt o_fuelAt o_ringAt o_pieceParts o_dragCell o_dragBy o_sums o_shares) H → va_D A (W_X7_moved cyI cyJ cyO h_o a_o_sets a_o_ringFar a_o_ringTone a_o_currents a_o_warmths a_o_depths a_o_tape a_o_readFar a_o_readTone a_o_readSea a_o_code a_o_cellAt a_o_courseAt a_o_paceAt a_o_turnsAt a_o_slowAt a_o_fuelAt a_o_ringAt a_o_pieceParts a_o_dragCell a_o_dragBy a_o_sums a_o_shares a_o_keptFar a_o_image a_o_lanes a_o_sizes a_o_items a_o_movedItems o_taped o_at o_wrong o_level o_noRings o_noTones o_noFuel o_pieces o_drags o_all o_noPieces o_noDrags o_kept o_sets o_ringFar o_ringTone o_currents o_warmths o_code o_cellAt o_courseAt o_paceAt o_turnsAt o_slowAt o_fuelAt o_ringAt o_pieceParts o_dragCell o_dragBy o_sums o_shares) → va_S A s.heap H locs → ∀ (ls : Array Slot), lv_has ls 6 [(0, .ref h_o), (1, .int v1), (2, .int v2)] → okP (f_X7_moved_B71 v1 v2 y0 o_level o_noRings o_noTones o_noFuel o_pieces o_drags o_all o_noPieces o_noDrags o_sets o_ringFar o_ringTone o_currents o_warmths o_code o_cellAt o_courseAt o_paceAt o_turnsAt o_slowAt o_fuelAt o_ringAt o_pieceParts o_dragCell o_dragBy o_sums o_shares) post → W p l e (headSpec wsX7_moved rm_X7_moved).room s m ([.ref h_o, .int x1] : List Value).toArray below meth c H locs 0 0 Q (F0 m 71 ls [.int y0, .ref h_o]) := by
    intro v1 v2 y0 o_level o_noRings o_noTones o_noFuel o_all o_noPieces o_noDrags o_code o_cellAt o_courseAt o_paceAt o_turnsAt o_slowAt o_fuelAt o_ringAt o_sums o_shares H locs hP hD hS ls hl hw
    unfold f_X7_moved_B71 at hw
    refine va_put (D := (dC, dI)) (ci := 7) (v := .int y0) (ty := .int) (C := RX7) (T := TX7) (N := 42) hx hb hts hi7 tyX7 tyX7_ok nmX7 hown hK hP hD hS 0 rfl rfl 22 (by decide) hq8 (fun _ h9 => h9) rfl (by decide +kernel) rfl rfl (Nat.le_of_ble_eq_true rfl) dX7_moved_71 (fun H locs hP hD hS => ?_)
    have hP : va_P (dC, dI) vwCl (W_X7_moved cyI cyJ cyO h_o a_o_sets a_o_ringFar a_o_ringTone a_o_currents a_o_warmths a_o_depths a_o_tape a_o_readFar a_o_readTone a_o_readSea a_o_code a_o_cellAt a_o_courseAt a_o_paceAt a_o_turnsAt a_o_slowAt a_o_fuelAt a_o_ringAt a_o_pieceParts a_o_dragCell a_o_dragBy a_o_sums a_o_shares a_o_keptFar a_o_image a_o_lanes a_o_sizes a_o_items a_o_movedItems o_taped o_at o_wrong o_level y0 o_noTones o_noFuel o_pieces o_drags o_all o_noPieces o_noDrags o_kept o_sets o_ringFar o_ringTone o_currents o_warmths o_code o_cellAt o_courseAt o_paceAt o_turnsAt o_slowAt o_fuelAt o_ringAt o_pieceParts o_dragCell o_dragBy o_sums o_shares) H := hP
    have hD : va_D A (W_X7_moved cyI cyJ cyO h_o a_o_sets a_o_ringFar a_o_ringTone a_o_currents a_o_warmths a_o_depths a_o_tape a_o_readFar a_o_readTone a_o_readSea a_o_code a_o_cellAt a_o_courseAt a_o_paceAt a_o_turnsAt a_o_slowAt a_o_fuelAt a_o_ringAt a_o_pieceParts a_o_dragCell a_o_dragBy a_o_sums a_o_shares a_o_keptFar a_o_image a_o_lanes a_o_sizes a_o_items a_o_movedItems o_taped o_at o_wrong o_level y0 o_noTones o_noFuel o_pieces o_drags o_all o_noPieces o_noDrags o_kept o_sets o_ringFar o_ringTone o_currents o_warmths o_code o_cellAt o_courseAt o_paceAt o_turnsAt o_slowAt o_fuelAt o_ringAt o_pieceParts o_dragCell o_dragBy o_sums o_shares) := hD
    refine lv_aload_n hx hb dX7_moved_74 rfl (lv_at hl 0 rfl) ?_
    refine lv_iload_n hx hb dX7_moved_75 rfl (lv_at hl 1 rfl) ?_
    refine lv_bipush (v := 6) hx hb dX7_moved_76 (by decide) ?_
    refine lv_icmp_ne (tgt := 85) hx hb dX7_moved_78 (by decide) (fun c_31 => ?_) (fun c_31 => ?_)
    · replace hw := okF hw c_31
      clear c_31
      refine lv_iconst (v := 0) hx hb dX7_moved_85 (by decide) ?_
      exact w86 v1 v2 0 o_level y0 o_noTones o_noFuel o_all o_noPieces o_noDrags o_code o_cellAt o_courseAt o_paceAt o_turnsAt o_slowAt o_fuelAt o_ringAt o_sums o_shares _ _ hP hD hS _ (lv_sub hl [0, 1, 2] rfl) hw
    · replace hw := okT hw c_31
      clear c_31
      refine lv_iconst (v := 1) hx hb dX7_moved_81 (by decide) ?_
      refine lv_goto (tgt := 86) hx hb dX7_moved_82 (by decide) ?_
      exact w86 v1 v2 1 o_level y0 o_noTones o_noFuel o_all o_noPieces o_noDrags o_code o_cellAt o_courseAt o_paceAt o_turnsAt o_slowAt o_fuelAt o_ringAt o_sums o_shares _ _ hP hD hS _ (lv_sub hl [0, 1, 2] rfl) hw
  have w21 : ∀ (n : Nat), ∀ (v1 : Int32) (v2 : Int32) (v3 : Int32) (o_level : Int32) (o_noRings : Int32) (o_noTones : Int32) (o_noFuel : Int32) (o_all : Int64) (o_noPieces : Int32) (o_noDrags : Int32) (o_code : Nat → Int32) (o_cellAt : Nat → Int32) (o_courseAt : Nat → Int32) (o_paceAt : Nat → Int32) (o_turnsAt : Nat → Int32) (o_slowAt : Nat → Int32) (o_fuelAt : Nat → Int32) (o_ringAt : Nat → Int32) (o_sums : Nat → Int64) (o_shares : Nat → Int32) (H : Heap) (locs : List Loc), va_P (dC, dI) vwCl (W_X7_moved cyI cyJ cyO h_o a_o_sets a_o_ringFar a_o_ringTone a_o_currents a_o_warmths a_o_depths a_o_tape a_o_readFar a_o_readTone a_o_readSea a_o_code a_o_cellAt a_o_courseAt a_o_paceAt a_o_turnsAt a_o_slowAt a_o_fuelAt a_o_ringAt a_o_pieceParts a_o_dragCell a_o_dragBy a_o_sums a_o_shares a_o_keptFar a_o_image a_o_lanes a_o_sizes a_o_items a_o_movedItems o_taped o_at o_wrong o_level o_noRings o_noTones o_noFuel o_pieces o_drags o_all o_noPieces o_noDrags o_kept o_sets o_ringFar o_ringTone o_currents o_warmths o_code o_cellAt o_courseAt o_paceAt o_turnsAt o_slowAt o_fuelAt o_ringAt o_pieceParts o_dragCell o_dragBy o_sums o_shares) H → va_D A (W_X7_moved cyI cyJ cyO h_o a_o_sets a_o_ringFar a_o_ringTone a_o_currents a_o_warmths a_o_depths a_o_tape a_o_readFar a_o_readTone a_o_readSea a_o_code a_o_cellAt a_o_courseAt a_o_paceAt a_o_turnsAt a_o_slowAt a_o_fuelAt a_o_ringAt a_o_pieceParts a_o_dragCell a_o_dragBy a_o_sums a_o_shares a_o_keptFar a_o_image a_o_lanes a_o_sizes a_o_items a_o_movedItems o_taped o_at o_wrong o_level o_noRings o_noTones o_noFuel o_pieces o_drags o_all o_noPieces o_noDrags o_kept o_sets o_ringFar o_ringTone o_currents o_warmths o_code o_cellAt o_courseAt o_paceAt o_turnsAt o_slowAt o_fuelAt o_ringAt o_pieceParts o_dragCell o_dragBy o_sums o_shares) → va_S A s.heap H locs → ∀ (ls : Array Slot), lv_has ls 6 [(0, .ref h_o), (1, .int v1), (2, .int v2), (3, .int v3)] → okP (f_X7_moved_L21 n v1 v2 v3 o_level o_noRings o_noTones o_noFuel o_pieces o_drags o_all o_noPieces o_noDrags o_sets o_ringFar o_ringTone o_currents o_warmths o_code o_cellAt o_courseAt o_paceAt o_turnsAt o_slowAt o_fuelAt o_ringAt o_pieceParts o_dragCell o_dragBy o_sums o_shares) post → W p l e (headSpec wsX7_moved rm_X7_moved).room s m ([.ref h_o, .int x1] : List Value).toArray below meth c H locs 0 0 Q (F0 m 21 ls []) := by
    intro n
    induction n with
    | zero =>
      intro v1 v2 v3 o_level o_noRings o_noTones o_noFuel o_all o_noPieces o_noDrags o_code o_cellAt o_courseAt o_paceAt o_turnsAt o_slowAt o_fuelAt o_ringAt o_sums o_shares H locs hP hD hS ls hl hw
      exact (ok0 hw).elim
    | succ n21 ih21 =>
      have w50 : ∀ (v1 : Int32) (v2 : Int32) (v3 : Int32) (y0 : Int32) (y1 : Int32) (o_level : Int32) (o_noRings : Int32) (o_noTones : Int32) (o_noFuel : Int32) (o_all : Int64) (o_noPieces : Int32) (o_noDrags : Int32) (o_code : Nat → Int32) (o_cellAt : Nat → Int32) (o_courseAt : Nat → Int32) (o_paceAt : Nat → Int32) (o_turnsAt : Nat → Int32) (o_slowAt : Nat → Int32) (o_fuelAt : Nat → Int32) (o_ringAt : Nat → Int32) (o_sums : Nat → Int64) (o_shares : Nat → Int32) (H : Heap) (locs : List Loc), va_P (dC, dI) vwCl (W_X7_moved cyI cyJ cyO h_o a_o_sets a_o_ringFar a_o_ringTone a_o_currents a_o_warmths a_o_depths a_o_tape a_o_readFar a_o_readTone a_o_readSea a_o_code a_o_cellAt a_o_courseAt a_o_paceAt a_o_turnsAt a_o_slowAt a_o_fuelAt a_o_ringAt a_o_pieceParts a_o_dragCell a_o_dragBy a_o_sums a_o_shares a_o_keptFar a_o_image a_o_lanes a_o_sizes a_o_items a_o_movedItems o_taped o_at o_wrong o_level o_noRings o_noTones o_noFuel o_pieces o_drags o_all o_noPieces o_noDrags o_kept o_sets o_ringFar o_ringTone o_currents o_warmths o_code o_cellAt o_courseAt o_paceAt o_turnsAt o_slowAt o_fuelAt o_ringAt o_pieceParts o_dragCell o_dragBy o_sums o_shares) H → va_D A (W_X7_moved cyI cyJ cyO h_o a_o_sets a_o_ringFar a_o_ringTone a_o_currents a_o_warmths a_o_depths a_o_tape a_o_readFar a_o_readTone a_o_readSea a_o_code a_o_cellAt a_o_courseAt a_o_paceAt a_o_turnsAt a_o_slowAt a_o_fuelAt a_o_ringAt a_o_pieceParts a_o_dragCell a_o_dragBy a_o_sums a_o_shares a_o_keptFar a_o_image a_o_lanes a_o_sizes a_o_items a_o_movedItems o_taped o_at o_wrong o_level o_noRings o_noTones o_noFuel o_pieces o_drags o_all o_noPieces o_noDrags o_kept o_sets o_ringFar o_ringTone o_currents o_warmths o_code o_cellAt o_courseAt o_paceAt o_turnsAt o_slowAt o_fuelAt o_ringAt o_pieceParts o_dragCell o_dragBy o_sums o_shares) → va_S A s.heap H locs → ∀ (ls : Array Slot), lv_has ls 6 [(0, .ref h_o), (1, .int v1), (2, .int v2), (3, .int v3)] → okP (f_X7_moved_B50 (f_X7_moved_L21 n21) v1 v2 v3 y0 y1 o_level o_noRings o_noTones o_noFuel o_pieces o_drags o_all o_noPieces o_noDrags o_sets o_ringFar o_ringTone o_currents o_warmths o_code o_cellAt o_courseAt o_paceAt o_turnsAt o_slowAt o_fuelAt o_ringAt o_pieceParts o_dragCell o_dragBy o_sums o_shares) post → W p l e (headSpec wsX7_moved rm_X7_moved).room s m ([.ref h_o, .int x1] : List Value).toArray below meth c H locs 0 0 Q (F0 m 50 ls [.int y0, .int y1, .ref a_o_shares]) := by
        intro v1 v2 v3 y0 y1 o_level o_noRings o_noTones o_noFuel o_all o_noPieces o_noDrags o_code o_cellAt o_courseAt o_paceAt o_turnsAt o_slowAt o_fuelAt o_ringAt o_sums o_shares H locs hP hD hS ls hl hw
        unfold f_X7_moved_B50 at hw
        obtain ⟨h_32, hw⟩ := okC hw
        refine va_iast (i := y1) (x := y0) hx hb hK hP hD hS 18 0 rfl rfl h_32 dX7_moved_50 (fun H locs hP hD hS => ?_)
        have hP : va_P (dC, dI) vwCl (W_X7_moved cyI cyJ cyO h_o a_o_sets a_o_ringFar a_o_ringTone a_o_currents a_o_warmths a_o_depths a_o_tape a_o_readFar a_o_readTone a_o_readSea a_o_code a_o_cellAt a_o_courseAt a_o_paceAt a_o_turnsAt a_o_slowAt a_o_fuelAt a_o_ringAt a_o_pieceParts a_o_dragCell a_o_dragBy a_o_sums a_o_shares a_o_keptFar a_o_image a_o_lanes a_o_sizes a_o_items a_o_movedItems o_taped o_at o_wrong o_level o_noRings o_noTones o_noFuel o_pieces o_drags o_all o_noPieces o_noDrags o_kept o_sets o_ringFar o_ringTone o_currents o_warmths o_code o_cellAt o_courseAt o_paceAt o_turnsAt o_slowAt o_fuelAt o_ringAt o_pieceParts o_dragCell o_dragBy o_sums (upd o_shares y1.toNatClampNeg y0)) H := hP
        have hD : va_D A (W_X7_moved cyI cyJ cyO h_o a_o_sets a_o_ringFar a_o_ringTone a_o_currents a_o_warmths a_o_depths a_o_tape a_o_readFar a_o_readTone a_o_readSea a_o_code a_o_cellAt a_o_courseAt a_o_paceAt a_o_turnsAt a_o_slowAt a_o_fuelAt a_o_ringAt a_o_pieceParts a_o_dragCell a_o_dragBy a_o_sums a_o_shares a_o_keptFar a_o_image a_o_lanes a_o_sizes a_o_items a_o_movedItems o_taped o_at o_wrong o_level o_noRings o_noTones o_noFuel o_pieces o_drags o_all o_noPieces o_noDrags o_kept o_sets o_ringFar o_ringTone o_currents o_warmths o_code o_cellAt o_courseAt o_paceAt o_turnsAt o_slowAt o_fuelAt o_ringAt o_pieceParts o_dragCell o_dragBy o_sums (upd o_shares y1.toNatClampNeg y0)) := hD
        obtain ⟨x_33, ex_33⟩ : ∃ y : Int32, y = v3 + 1 := ⟨_, rfl⟩
        replace hw := okN ex_33 hw
        refine lv_iinc (v := x_33) (lv' := [(3, .int x_33), (0, .ref h_o), (1, .int v1), (2, .int v2)]) hx hb dX7_moved_51 hl (k := 3) rfl (by rw [ex_33]; rfl) (by decide) rfl (fun ls hl => ?_)
        clear ex_33
        refine lv_goto (tgt := 21) hx hb dX7_moved_54 (by decide) ?_
        exact ih21 v1 v2 x_33 o_level o_noRings o_noTones o_noFuel o_all o_noPieces o_noDrags o_code o_cellAt o_courseAt o_paceAt o_turnsAt o_slowAt o_fuelAt o_ringAt o_sums (upd o_shares y1.toNatClampNeg y0) _ _ hP hD hS _ (lv_sub hl [1, 2, 3, 0] rfl) hw
      intro v1 v2 v3 o_level o_noRings o_noTones o_noFuel o_all o_noPieces o_noDrags o_code o_cellAt o_courseAt o_paceAt o_turnsAt o_slowAt o_fuelAt o_ringAt o_sums o_shares H locs hP hD hS ls hl hw
      replace hw : okP (f_X7_moved_L21b (f_X7_moved_L21 n21) v1 v2 v3 o_level o_noRings o_noTones o_noFuel o_pieces o_drags o_all o_noPieces o_noDrags o_sets o_ringFar o_ringTone o_currents o_warmths o_code o_cellAt o_courseAt o_paceAt o_turnsAt o_slowAt o_fuelAt o_ringAt o_pieceParts o_dragCell o_dragBy o_sums o_shares) post := hw
      unfold f_X7_moved_L21b at hw
      refine lv_iload_n hx hb dX7_moved_21 rfl (lv_at hl 3 rfl) ?_
      refine lv_bipush (v := 100) hx hb dX7_moved_22 (by decide) ?_
      refine lv_icmp_ge (tgt := 57) hx hb dX7_moved_24 (by decide) (fun c_34 => ?_) (fun c_34 => ?_)
      · replace hw := okT hw c_34
        clear c_34
        refine lv_aload_n hx hb dX7_moved_57 rfl (lv_at hl 0 rfl) ?_
        refine lv_iload_n hx hb dX7_moved_58 rfl (lv_at hl 1 rfl) ?_
        refine lv_bipush (v := 6) hx hb dX7_moved_59 (by decide) ?_
        refine lv_icmp_ge (tgt := 70) hx hb dX7_moved_61 (by decide) (fun c_35 => ?_) (fun c_35 => ?_)
        · replace hw := okT hw c_35
          clear c_35
          refine lv_iconst (v := 0) hx hb dX7_moved_70 (by decide) ?_
          exact w71 v1 v2 0 o_level o_noRings o_noTones o_noFuel o_all o_noPieces o_noDrags o_code o_cellAt o_courseAt o_paceAt o_turnsAt o_slowAt o_fuelAt o_ringAt o_sums o_shares _ _ hP hD hS _ (lv_sub hl [0, 1, 2] rfl) hw
        · replace hw := okF hw c_35
          clear c_35
          refine lv_iconst (v := 2) hx hb dX7_moved_64 (by decide) ?_
          refine lv_iload_n hx hb dX7_moved_65 rfl (lv_at hl 1 rfl) ?_
          refine lv_ishl hx hb dX7_moved_66 ?_
          refine lv_goto (tgt := 71) hx hb dX7_moved_67 (by decide) ?_
          exact w71 v1 v2 (2 <<< (v1 &&& 31)) o_level o_noRings o_noTones o_noFuel o_all o_noPieces o_noDrags o_code o_cellAt o_courseAt o_paceAt o_turnsAt o_slowAt o_fuelAt o_ringAt o_sums o_shares _ _ hP hD hS _ (lv_sub hl [0, 1, 2] rfl) hw
      · replace hw := okF hw c_34
        clear c_34
        refine lv_aload_n hx hb dX7_moved_27 rfl (lv_at hl 0 rfl) ?_
        refine va_get (D := (dC, dI)) (ci := 7) (v := .ref a_o_shares) (C := RX7) (T := TX7) (N := 42) hx hb hts hi7 hown hK hP 0 rfl rfl 34 (by decide) hq2 (fun _ h9 => h9) rfl dX7_moved_28 ?_
        refine lv_iload_n hx hb dX7_moved_31 rfl (lv_at hl 3 rfl) ?_
        refine lv_iload_n hx hb dX7_moved_32 rfl (lv_at hl 2 rfl) ?_
        refine lv_if_eq (tgt := 49) hx hb dX7_moved_33 (by decide) (fun c_36 => ?_) (fun c_36 => ?_)
        · replace hw := okT hw c_36
          clear c_36
          refine lv_iconst (v := 0) hx hb dX7_moved_49 (by decide) ?_
          exact w50 v1 v2 v3 0 v3 o_level o_noRings o_noTones o_noFuel o_all o_noPieces o_noDrags o_code o_cellAt o_courseAt o_paceAt o_turnsAt o_slowAt o_fuelAt o_ringAt o_sums o_shares _ _ hP hD hS _ (lv_sub hl [0, 1, 2, 3] rfl) hw
        · replace hw := okF hw c_36
          clear c_36
          refine lv_aload_n hx hb dX7_moved_36 rfl (lv_at hl 0 rfl) ?_
          refine lv_aload_n hx hb dX7_moved_37 rfl (lv_at hl 0 rfl) ?_
          refine va_get (D := (dC, dI)) (ci := 7) (v := .ref a_o_sums) (C := RX7) (T := TX7) (N := 42) hx hb hts hi7 hown hK hP 0 rfl rfl 30 (by decide) hq0 (fun _ h9 => h9) rfl dX7_moved_38 ?_
          refine lv_iload_n hx hb dX7_moved_41 rfl (lv_at hl 3 rfl) ?_
          obtain ⟨h_37, hw⟩ := okC hw
          refine va_lald (i := v3) hx hb hK hP 17 1 rfl rfl h_37 dX7_moved_42 ?_
          have hPc := hP.sub (ws' := (W_X7_thousandths cyI cyJ cyO h_o a_o_sets a_o_ringFar a_o_ringTone a_o_currents a_o_warmths a_o_depths a_o_tape a_o_readFar a_o_readTone a_o_readSea a_o_code a_o_cellAt a_o_courseAt a_o_paceAt a_o_turnsAt a_o_slowAt a_o_fuelAt a_o_ringAt a_o_pieceParts a_o_dragCell a_o_dragBy a_o_sums a_o_shares a_o_keptFar a_o_image a_o_lanes a_o_sizes a_o_items a_o_movedItems o_taped o_at o_wrong o_level o_noRings o_noTones o_noFuel o_pieces o_drags o_all o_noPieces o_noDrags o_kept)) [0] rfl
          have hDc := hD.sub (ws' := (W_X7_thousandths cyI cyJ cyO h_o a_o_sets a_o_ringFar a_o_ringTone a_o_currents a_o_warmths a_o_depths a_o_tape a_o_readFar a_o_readTone a_o_readSea a_o_code a_o_cellAt a_o_courseAt a_o_paceAt a_o_turnsAt a_o_slowAt a_o_fuelAt a_o_ringAt a_o_pieceParts a_o_dragCell a_o_dragBy a_o_sums a_o_shares a_o_keptFar a_o_image a_o_lanes a_o_sizes a_o_items a_o_movedItems o_taped o_at o_wrong o_level o_noRings o_noTones o_noFuel o_pieces o_drags o_all o_noPieces o_noDrags o_kept)) [0] (by decide +kernel) rfl
          have hFc := va_free (wc := (W_X7_thousandths cyI cyJ cyO h_o a_o_sets a_o_ringFar a_o_ringTone a_o_currents a_o_warmths a_o_depths a_o_tape a_o_readFar a_o_readTone a_o_readSea a_o_code a_o_cellAt a_o_courseAt a_o_paceAt a_o_turnsAt a_o_slowAt a_o_fuelAt a_o_ringAt a_o_pieceParts a_o_dragCell a_o_dragBy a_o_sums a_o_shares a_o_keptFar a_o_image a_o_lanes a_o_sizes a_o_items a_o_movedItems o_taped o_at o_wrong o_level o_noRings o_noTones o_noFuel o_pieces o_drags o_all o_noPieces o_noDrags o_kept)) hD hS hA [0] rfl
          refine kc_i (wr := [(a_o_sets, .inl (cyI, 8, .inl o_sets)), (a_o_ringFar, .inl (cyI, 7, .inl o_ringFar)), (a_o_ringTone, .inl (cyI, 7, .inl o_ringTone)), (a_o_currents, .inl (cyI, 200, .inl o_currents)), (a_o_warmths, .inl (cyI, 200, .inl o_warmths)), (a_o_code, .inl (cyI, 7, .inl o_code)), (a_o_cellAt, .inl (cyI, 7, .inl o_cellAt)), (a_o_courseAt, .inl (cyI, 7, .inl o_courseAt)), (a_o_paceAt, .inl (cyI, 7, .inl o_paceAt)), (a_o_turnsAt, .inl (cyI, 7, .inl o_turnsAt)), (a_o_slowAt, .inl (cyI, 7, .inl o_slowAt)), (a_o_fuelAt, .inl (cyI, 7, .inl o_fuelAt)), (a_o_ringAt, .inl (cyI, 7, .inl o_ringAt)), (a_o_pieceParts, .inl (cyI, 20, .inl o_pieceParts)), (a_o_dragCell, .inl (cyI, 6, .inl o_dragCell)), (a_o_dragBy, .inl (cyI, 6, .inl o_dragBy)), (a_o_sums, .inl (cyJ, 100, .inr (.inl o_sums))), (a_o_shares, .inl (cyI, 100, .inl o_shares))]) (va_runV (As := [.long (o_sums v3.toNatClampNeg)]) (rest := [.int v3, .ref a_o_shares]) ⟨hx, hb, hml, hown, hts⟩ (c_X7_thousandths l dC dI cyI cyJ cyO H.size h_o a_o_sets a_o_ringFar a_o_ringTone a_o_currents a_o_warmths a_o_depths a_o_tape a_o_readFar a_o_readTone a_o_readSea a_o_code a_o_cellAt a_o_courseAt a_o_paceAt a_o_turnsAt a_o_slowAt a_o_fuelAt a_o_ringAt a_o_pieceParts a_o_dragCell a_o_dragBy a_o_sums a_o_shares a_o_keptFar a_o_image a_o_lanes a_o_sizes a_o_items a_o_movedItems o_taped o_at o_wrong o_level o_noRings o_noTones o_noFuel o_pieces o_drags o_all o_noPieces o_noDrags o_kept (o_sums v3.toNatClampNeg) _ (okb1 hw)) (cwV 1 hts (gdV (fun w h => List.mem_cons_of_mem _ h) q_1025 q_1027 qs_42 q_8 q_1028) rfl rfl rfl (by decide +kernel) ⟨Nat.le_of_ble_eq_true rfl, Nat.le_of_ble_eq_true rfl⟩) ⟨(kpre zN_ok hK hPc hDc trivial hS hFc).1, va_recv hK hP (ci := 7) (q0 := 0) rfl rfl, (kpre zN_ok hK hPc hDc trivial hS hFc).2⟩ rfl rfl hl.1 rfl (lv_room (Nat.le_of_ble_eq_true rfl)) dX7_moved_43 ⟨Nat.le_of_ble_eq_true rfl, Nat.le_of_ble_eq_true rfl⟩) hP hD hS hFc [0] [1, 2, 3, 4, 5, 6, 7, 8, 9, 10, 11, 12, 13, 14, 15, 16, 17, 18] rfl rfl (by decide +kernel) (by decide +kernel) (fun r_38 u H locs hw hP hD hS => ?_)
          try dsimp only at hw
          have hP : va_P (dC, dI) vwCl (W_X7_moved cyI cyJ cyO h_o a_o_sets a_o_ringFar a_o_ringTone a_o_currents a_o_warmths a_o_depths a_o_tape a_o_readFar a_o_readTone a_o_readSea a_o_code a_o_cellAt a_o_courseAt a_o_paceAt a_o_turnsAt a_o_slowAt a_o_fuelAt a_o_ringAt a_o_pieceParts a_o_dragCell a_o_dragBy a_o_sums a_o_shares a_o_keptFar a_o_image a_o_lanes a_o_sizes a_o_items a_o_movedItems o_taped o_at o_wrong o_level o_noRings o_noTones o_noFuel o_pieces o_drags o_all o_noPieces o_noDrags o_kept o_sets o_ringFar o_ringTone o_currents o_warmths o_code o_cellAt o_courseAt o_paceAt o_turnsAt o_slowAt o_fuelAt o_ringAt o_pieceParts o_dragCell o_dragBy o_sums o_shares) H := hP.sub [18, 0, 1, 2, 3, 4, 5, 6, 7, 8, 9, 10, 11, 12, 13, 14, 15, 16, 17] rfl
          have hD : va_D A (W_X7_moved cyI cyJ cyO h_o a_o_sets a_o_ringFar a_o_ringTone a_o_currents a_o_warmths a_o_depths a_o_tape a_o_readFar a_o_readTone a_o_readSea a_o_code a_o_cellAt a_o_courseAt a_o_paceAt a_o_turnsAt a_o_slowAt a_o_fuelAt a_o_ringAt a_o_pieceParts a_o_dragCell a_o_dragBy a_o_sums a_o_shares a_o_keptFar a_o_image a_o_lanes a_o_sizes a_o_items a_o_movedItems o_taped o_at o_wrong o_level o_noRings o_noTones o_noFuel o_pieces o_drags o_all o_noPieces o_noDrags o_kept o_sets o_ringFar o_ringTone o_currents o_warmths o_code o_cellAt o_courseAt o_paceAt o_turnsAt o_slowAt o_fuelAt o_ringAt o_pieceParts o_dragCell o_dragBy o_sums o_shares) := hD.sub [18, 0, 1, 2, 3, 4, 5, 6, 7, 8, 9, 10, 11, 12, 13, 14, 15, 16, 17] (by decide +kernel) rfl
          clear hPc hDc hFc
          refine lv_goto (tgt := 50) hx hb dX7_moved_46 (by decide) ?_
          exact w50 v1 v2 v3 r_38 v3 o_level o_noRings o_noTones o_noFuel o_all o_noPieces o_noDrags o_code o_cellAt o_courseAt o_paceAt o_turnsAt o_slowAt o_fuelAt o_ringAt o_sums o_shares _ _ hP hD hS _ (lv_sub hl [0, 1, 2, 3] rfl) hw
  have w18 : ∀ (v1 : Int32) (y0 : Int32) (o_level : Int32) (o_noRings : Int32) (o_noTones : Int32) (o_noFuel : Int32) (o_all : Int64) (o_noPieces : Int32) (o_noDrags : Int32) (o_code : Nat → Int32) (o_cellAt : Nat → Int32) (o_courseAt : Nat → Int32) (o_paceAt : Nat → Int32) (o_turnsAt : Nat → Int32) (o_slowAt : Nat → Int32) (o_fuelAt : Nat → Int32) (o_ringAt : Nat → Int32) (o_sums : Nat → Int64) (o_shares : Nat → Int32) (H : Heap) (locs : List Loc), va_P (dC, dI) vwCl (W_X7_moved cyI cyJ cyO h_o a_o_sets a_o_ringFar a_o_ringTone a_o_currents a_o_warmths a_o_depths a_o_tape a_o_readFar a_o_readTone a_o_readSea a_o_code a_o_cellAt a_o_courseAt a_o_paceAt a_o_turnsAt a_o_slowAt a_o_fuelAt a_o_ringAt a_o_pieceParts a_o_dragCell a_o_dragBy a_o_sums a_o_shares a_o_keptFar a_o_image a_o_lanes a_o_sizes a_o_items a_o_movedItems o_taped o_at o_wrong o_level o_noRings o_noTones o_noFuel o_pieces o_drags o_all o_noPieces o_noDrags o_kept o_sets o_ringFar o_ringTone o_currents o_warmths o_code o_cellAt o_courseAt o_paceAt o_turnsAt o_slowAt o_fuelAt o_ringAt o_pieceParts o_dragCell o_dragBy o_sums o_shares) H → va_D A (W_X7_moved cyI cyJ cyO h_o a_o_sets a_o_ringFar a_o_ringTone a_o_currents a_o_warmths a_o_depths a_o_tape a_o_readFar a_o_readTone a_o_readSea a_o_code a_o_cellAt a_o_courseAt a_o_paceAt a_o_turnsAt a_o_slowAt a_o_fuelAt a_o_ringAt a_o_pieceParts a_o_dragCell a_o_dragBy a_o_sums a_o_shares a_o_keptFar a_o_image a_o_lanes a_o_sizes a_o_items a_o_movedItems o_taped o_at o_wrong o_level o_noRings o_noTones o_noFuel o_pieces o_drags o_all o_noPieces o_noDrags o_kept o_sets o_ringFar o_ringTone o_currents o_warmths o_code o_cellAt o_courseAt o_paceAt o_turnsAt o_slowAt o_fuelAt o_ringAt o_pieceParts o_dragCell o_dragBy o_sums o_shares) → va_S A s.heap H locs → ∀ (ls : Array Slot), lv_has ls 6 [(0, .ref h_o), (1, .int v1)] → okP (f_X7_moved_B18 v1 y0 o_level o_noRings o_noTones o_noFuel o_pieces o_drags o_all o_noPieces o_noDrags o_sets o_ringFar o_ringTone o_currents o_warmths o_code o_cellAt o_courseAt o_paceAt o_turnsAt o_slowAt o_fuelAt o_ringAt o_pieceParts o_dragCell o_dragBy o_sums o_shares) post → W p l e (headSpec wsX7_moved rm_X7_moved).room s m ([.ref h_o, .int x1] : List Value).toArray below meth c H locs 0 0 Q (F0 m 18 ls [.int y0]) := by
    intro v1 y0 o_level o_noRings o_noTones o_noFuel o_all o_noPieces o_noDrags o_code o_cellAt o_courseAt o_paceAt o_turnsAt o_slowAt o_fuelAt o_ringAt o_sums o_shares H locs hP hD hS ls hl hw
    unfold f_X7_moved_B18 at hw
    refine lv_istore_n (lv' := [(2, .int y0), (0, .ref h_o), (1, .int v1)]) hx hb dX7_moved_18 rfl hl (by decide) rfl (fun ls hl => ?_)
    refine lv_iconst (v := 0) hx hb dX7_moved_19 (by decide) ?_
    refine lv_istore_n (lv' := [(3, .int 0), (2, .int y0), (0, .ref h_o), (1, .int v1)]) hx hb dX7_moved_20 rfl hl (by decide) rfl (fun ls hl => ?_)
    exact w21 FU v1 y0 0 o_level o_noRings o_noTones o_noFuel o_all o_noPieces o_noDrags o_code o_cellAt o_courseAt o_paceAt o_turnsAt o_slowAt o_fuelAt o_ringAt o_sums o_shares _ _ hP hD hS _ (lv_sub hl [2, 3, 1, 0] rfl) hw
  unfold f_X7_moved at hw
  have hP : va_P (dC, dI) vwCl (W_X7_moved cyI cyJ cyO h_o a_o_sets a_o_ringFar a_o_ringTone a_o_currents a_o_warmths a_o_depths a_o_tape a_o_readFar a_o_readTone a_o_readSea a_o_code a_o_cellAt a_o_courseAt a_o_paceAt a_o_turnsAt a_o_slowAt a_o_fuelAt a_o_ringAt a_o_pieceParts a_o_dragCell a_o_dragBy a_o_sums a_o_shares a_o_keptFar a_o_image a_o_lanes a_o_sizes a_o_items a_o_movedItems o_taped o_at o_wrong o_level o_noRings o_noTones o_noFuel o_pieces o_drags o_all o_noPieces o_noDrags o_kept o_sets o_ringFar o_ringTone o_currents o_warmths o_code o_cellAt o_courseAt o_paceAt o_turnsAt o_slowAt o_fuelAt o_ringAt o_pieceParts o_dragCell o_dragBy o_sums o_shares) s.heap := hP
  obtain ⟨H, hH⟩ : ∃ H, H = s.heap := ⟨_, rfl⟩
  obtain ⟨locs, hlo⟩ : ∃ x : List Loc, x = [] := ⟨_, rfl⟩
  have hP : va_P (dC, dI) vwCl (W_X7_moved cyI cyJ cyO h_o a_o_sets a_o_ringFar a_o_ringTone a_o_currents a_o_warmths a_o_depths a_o_tape a_o_readFar a_o_readTone a_o_readSea a_o_code a_o_cellAt a_o_courseAt a_o_paceAt a_o_turnsAt a_o_slowAt a_o_fuelAt a_o_ringAt a_o_pieceParts a_o_dragCell a_o_dragBy a_o_sums a_o_shares a_o_keptFar a_o_image a_o_lanes a_o_sizes a_o_items a_o_movedItems o_taped o_at o_wrong o_level o_noRings o_noTones o_noFuel o_pieces o_drags o_all o_noPieces o_noDrags o_kept o_sets o_ringFar o_ringTone o_currents o_warmths o_code o_cellAt o_courseAt o_paceAt o_turnsAt o_slowAt o_fuelAt o_ringAt o_pieceParts o_dragCell o_dragBy o_sums o_shares) H := by rw [hH]; exact hP
  have hS : va_S A s.heap H locs := by rw [hH, hlo]; exact hS
  refine kH hH hlo ?_
  clear hH hlo
  refine lv_aload_n hx hb dX7_moved_0 rfl (lv_at hl 0 rfl) ?_
  have hPc := hP.sub (ws' := (W_X7_endsAsTold cyI cyJ cyO h_o a_o_sets a_o_ringFar a_o_ringTone a_o_currents a_o_warmths a_o_depths a_o_tape a_o_readFar a_o_readTone a_o_readSea a_o_code a_o_cellAt a_o_courseAt a_o_paceAt a_o_turnsAt a_o_slowAt a_o_fuelAt a_o_ringAt a_o_pieceParts a_o_dragCell a_o_dragBy a_o_sums a_o_shares a_o_keptFar a_o_image a_o_lanes a_o_sizes a_o_items a_o_movedItems o_taped o_at o_wrong o_level o_noRings o_noTones o_noFuel o_pieces o_drags o_all o_noPieces o_noDrags o_kept o_sets o_ringFar o_ringTone o_currents o_warmths o_code o_cellAt o_courseAt o_paceAt o_turnsAt o_slowAt o_fuelAt o_ringAt o_pieceParts o_dragCell o_dragBy o_sums)) [0, 1, 2, 3, 4, 5, 6, 7, 8, 9, 10, 11, 12, 13, 14, 15, 16, 17] rfl
  have hDc := hD.sub (ws' := (W_X7_endsAsTold cyI cyJ cyO h_o a_o_sets a_o_ringFar a_o_ringTone a_o_currents a_o_warmths a_o_depths a_o_tape a_o_readFar a_o_readTone a_o_readSea a_o_code a_o_cellAt a_o_courseAt a_o_paceAt a_o_turnsAt a_o_slowAt a_o_fuelAt a_o_ringAt a_o_pieceParts a_o_dragCell a_o_dragBy a_o_sums a_o_shares a_o_keptFar a_o_image a_o_lanes a_o_sizes a_o_items a_o_movedItems o_taped o_at o_wrong o_level o_noRings o_noTones o_noFuel o_pieces o_drags o_all o_noPieces o_noDrags o_kept o_sets o_ringFar o_ringTone o_currents o_warmths o_code o_cellAt o_courseAt o_paceAt o_turnsAt o_slowAt o_fuelAt o_ringAt o_pieceParts o_dragCell o_dragBy o_sums)) [0, 1, 2, 3, 4, 5, 6, 7, 8, 9, 10, 11, 12, 13, 14, 15, 16, 17] (by decide +kernel) rfl
  have hFc := va_free (wc := (W_X7_endsAsTold cyI cyJ cyO h_o a_o_sets a_o_ringFar a_o_ringTone a_o_currents a_o_warmths a_o_depths a_o_tape a_o_readFar a_o_readTone a_o_readSea a_o_code a_o_cellAt a_o_courseAt a_o_paceAt a_o_turnsAt a_o_slowAt a_o_fuelAt a_o_ringAt a_o_pieceParts a_o_dragCell a_o_dragBy a_o_sums a_o_shares a_o_keptFar a_o_image a_o_lanes a_o_sizes a_o_items a_o_movedItems o_taped o_at o_wrong o_level o_noRings o_noTones o_noFuel o_pieces o_drags o_all o_noPieces o_noDrags o_kept o_sets o_ringFar o_ringTone o_currents o_warmths o_code o_cellAt o_courseAt o_paceAt o_turnsAt o_slowAt o_fuelAt o_ringAt o_pieceParts o_dragCell o_dragBy o_sums)) hD hS hA [0, 1, 2, 3, 4, 5, 6, 7, 8, 9, 10, 11, 12, 13, 14, 15, 16, 17] rfl
  refine kc_v (wr := [(a_o_shares, .inl (cyI, 100, .inl o_shares))]) (va_runV (As := []) (rest := []) ⟨hx, hb, hml, hown, hts⟩ (c_X7_endsAsTold l dC dI cyI cyJ cyO H.size h_o a_o_sets a_o_ringFar a_o_ringTone a_o_currents a_o_warmths a_o_depths a_o_tape a_o_readFar a_o_readTone a_o_readSea a_o_code a_o_cellAt a_o_courseAt a_o_paceAt a_o_turnsAt a_o_slowAt a_o_fuelAt a_o_ringAt a_o_pieceParts a_o_dragCell a_o_dragBy a_o_sums a_o_shares a_o_keptFar a_o_image a_o_lanes a_o_sizes a_o_items a_o_movedItems o_taped o_at o_wrong o_level o_noRings o_noTones o_noFuel o_pieces o_drags o_all o_noPieces o_noDrags o_kept o_sets o_ringFar o_ringTone o_currents o_warmths o_code o_cellAt o_courseAt o_paceAt o_turnsAt o_slowAt o_fuelAt o_ringAt o_pieceParts o_dragCell o_dragBy o_sums _ (okb16 hw)) (cwV 0 hts (gdV (fun w h => List.mem_cons_of_mem _ h) q_991 q_993 qs_38 q_8 q_994) rfl rfl rfl (by decide +kernel) ⟨Nat.le_of_ble_eq_true rfl, Nat.le_of_ble_eq_true rfl⟩) ⟨(kpre zN_ok hK hPc hDc trivial hS hFc).1, va_recv hK hP (ci := 7) (q0 := 0) rfl rfl, (kpre zN_ok hK hPc hDc trivial hS hFc).2⟩ rfl rfl hl.1 rfl (lv_room (Nat.le_of_ble_eq_true rfl)) dX7_moved_1 ⟨Nat.le_of_ble_eq_true rfl, Nat.le_of_ble_eq_true rfl⟩) hP hD hS hFc [0, 1, 2, 3, 4, 5, 6, 7, 8, 9, 10, 11, 12, 13, 14, 15, 16, 17] [18] rfl rfl (by decide +kernel) (by decide +kernel) (fun u H locs hw hP hD hS => ?_)
  obtain ⟨w_39, w_40, w_41, w_42, w_43, w_44, w_45, w_46, w_47, w_48, w_49, w_50, w_51, w_52, w_53, w_54⟩ := u
  try dsimp only at hw
  have hP : va_P (dC, dI) vwCl (W_X7_moved cyI cyJ cyO h_o a_o_sets a_o_ringFar a_o_ringTone a_o_currents a_o_warmths a_o_depths a_o_tape a_o_readFar a_o_readTone a_o_readSea a_o_code a_o_cellAt a_o_courseAt a_o_paceAt a_o_turnsAt a_o_slowAt a_o_fuelAt a_o_ringAt a_o_pieceParts a_o_dragCell a_o_dragBy a_o_sums a_o_shares a_o_keptFar a_o_image a_o_lanes a_o_sizes a_o_items a_o_movedItems o_taped o_at o_wrong w_39 w_40 w_41 w_42 o_pieces o_drags w_43 w_44 w_45 o_kept o_sets o_ringFar o_ringTone o_currents o_warmths w_46 w_47 w_48 w_49 w_50 w_51 w_52 w_53 o_pieceParts o_dragCell o_dragBy w_54 o_shares) H := hP.sub [1, 2, 3, 4, 5, 6, 7, 8, 9, 10, 11, 12, 13, 14, 15, 16, 17, 18, 0] rfl
  have hD : va_D A (W_X7_moved cyI cyJ cyO h_o a_o_sets a_o_ringFar a_o_ringTone a_o_currents a_o_warmths a_o_depths a_o_tape a_o_readFar a_o_readTone a_o_readSea a_o_code a_o_cellAt a_o_courseAt a_o_paceAt a_o_turnsAt a_o_slowAt a_o_fuelAt a_o_ringAt a_o_pieceParts a_o_dragCell a_o_dragBy a_o_sums a_o_shares a_o_keptFar a_o_image a_o_lanes a_o_sizes a_o_items a_o_movedItems o_taped o_at o_wrong w_39 w_40 w_41 w_42 o_pieces o_drags w_43 w_44 w_45 o_kept o_sets o_ringFar o_ringTone o_currents o_warmths w_46 w_47 w_48 w_49 w_50 w_51 w_52 w_53 o_pieceParts o_dragCell o_dragBy w_54 o_shares) := hD.sub [1, 2, 3, 4, 5, 6, 7, 8, 9, 10, 11, 12, 13, 14, 15, 16, 17, 18, 0] (by decide +kernel) rfl
  clear hPc hDc hFc
  refine lv_aload_n hx hb dX7_moved_4 rfl (lv_at hl 0 rfl) ?_
  refine va_get (D := (dC, dI)) (ci := 7) (v := .long w_43) (C := RX7) (T := TX7) (N := 42) hx hb hts hi7 hown hK hP 0 rfl rfl 31 (by decide) hq3 (fun _ h9 => h9) rfl dX7_moved_5 ?_
  refine lv_lconst (v := 0) hx hb dX7_moved_8 (by decide) ?_
  refine W.lcmp hx hb dX7_moved_9 ?_
  refine lv_if_le (tgt := 17) hx hb dX7_moved_10 (by decide) (fun c_55 => ?_) (fun c_55 => ?_)
  · replace hw := okT hw c_55
    clear c_55
    refine lv_iconst (v := 0) hx hb dX7_moved_17 (by decide) ?_
    exact w18 x1 0 w_39 w_40 w_41 w_42 w_43 w_44 w_45 w_46 w_47 w_48 w_49 w_50 w_51 w_52 w_53 w_54 o_shares _ _ hP hD hS _ (lv_sub hl [0, 1] rfl) hw
  · replace hw := okF hw c_55
    clear c_55
    refine lv_iconst (v := 1) hx hb dX7_moved_13 (by decide) ?_
    refine lv_goto (tgt := 18) hx hb dX7_moved_14 (by decide) ?_
    exact w18 x1 1 w_39 w_40 w_41 w_42 w_43 w_44 w_45 w_46 w_47 w_48 w_49 w_50 w_51 w_52 w_53 w_54 o_shares _ _ hP hD hS _ (lv_sub hl [0, 1] rfl) hw
/-! ===== X7_isAssumption ===== -/
theorem dX7_isAssumption_0 : decode cX7_isAssumption 0 = .ok (.iload_n 1, 1) := by decide +kernel
theorem dX7_isAssumption_1 : decode cX7_isAssumption 1 = .ok (.i2l, 1) := by decide +kernel
theorem dX7_isAssumption_2 : decode cX7_isAssumption 2 = .ok (.lconst 0, 1) := by decide +kernel
theorem dX7_isAssumption_3 : decode cX7_isAssumption 3 = .ok (.ldc2_w 251, 3) := by decide +kernel
theorem dX7_isAssumption_6 : decode cX7_isAssumption 6 = .ok (.invokestatic 100, 3) := by decide +kernel
theorem dX7_isAssumption_9 : decode cX7_isAssumption 9 = .ok (.ifCond .eq 30, 3) := by decide +kernel
theorem dX7_isAssumption_12 : decode cX7_isAssumption 12 = .ok (.iload_n 1, 1) := by decide +kernel
theorem dX7_isAssumption_13 : decode cX7_isAssumption 13 = .ok (.bipush 8, 2) := by decide +kernel
theorem dX7_isAssumption_15 : decode cX7_isAssumption 15 = .ok (.if_icmp .lt 20, 3) := by decide +kernel
theorem dX7_isAssumption_18 : decode cX7_isAssumption 18 = .ok (.iload_n 1, 1) := by decide +kernel
theorem dX7_isAssumption_19 : decode cX7_isAssumption 19 = .ok (.bipush 12, 2) := by decide +kernel
theorem dX7_isAssumption_21 : decode cX7_isAssumption 21 = .ok (.if_icmp .eq 14, 3) := by decide +kernel
theorem dX7_isAssumption_24 : decode cX7_isAssumption 24 = .ok (.iload_n 1, 1) := by decide +kernel
theorem dX7_isAssumption_25 : decode cX7_isAssumption 25 = .ok (.bipush 8, 2) := by decide +kernel
theorem dX7_isAssumption_27 : decode cX7_isAssumption 27 = .ok (.isub, 1) := by decide +kernel
theorem dX7_isAssumption_28 : decode cX7_isAssumption 28 = .ok (.aload_n 0, 1) := by decide +kernel
theorem dX7_isAssumption_29 : decode cX7_isAssumption 29 = .ok (.getfield 206, 3) := by decide +kernel
theorem dX7_isAssumption_32 : decode cX7_isAssumption 32 = .ok (.if_icmp .ge 7, 3) := by decide +kernel
theorem dX7_isAssumption_35 : decode cX7_isAssumption 35 = .ok (.iconst 1, 1) := by decide +kernel
theorem dX7_isAssumption_36 : decode cX7_isAssumption 36 = .ok (.goto 4, 3) := by decide +kernel
theorem dX7_isAssumption_39 : decode cX7_isAssumption 39 = .ok (.iconst 0, 1) := by decide +kernel
theorem dX7_isAssumption_40 : decode cX7_isAssumption 40 = .ok (.ireturn, 1) := by decide +kernel
abbrev W_X7_isAssumption (cyI cyJ cyO : ClassId) (h_o a_o_sets a_o_ringFar a_o_ringTone a_o_currents a_o_warmths a_o_depths a_o_tape a_o_readFar a_o_readTone a_o_readSea a_o_code a_o_cellAt a_o_courseAt a_o_paceAt a_o_turnsAt a_o_slowAt a_o_fuelAt a_o_ringAt a_o_pieceParts a_o_dragCell a_o_dragBy a_o_sums a_o_shares a_o_keptFar a_o_image a_o_lanes a_o_sizes a_o_items a_o_movedItems : Nat) (o_taped : Int32) (o_at : Int32) (o_wrong : Int32) (o_level : Int32) (o_noRings : Int32) (o_noTones : Int32) (o_noFuel : Int32) (o_pieces : Int32) (o_drags : Int32) (o_all : Int64) (o_noPieces : Int32) (o_noDrags : Int32) (o_kept : Int32) : va_W := [(h_o, .inr (7, [.ref a_o_sets, .ref a_o_ringFar, .ref a_o_ringTone, .ref a_o_currents, .ref a_o_warmths, .ref a_o_depths, .ref a_o_tape, .int o_taped, .int o_at, .int o_wrong, .ref a_o_readFar, .ref a_o_readTone, .ref a_o_readSea, .ref a_o_code, .ref a_o_cellAt, .ref a_o_courseAt, .ref a_o_paceAt, .ref a_o_turnsAt, .ref a_o_slowAt, .ref a_o_fuelAt, .ref a_o_ringAt, .int o_level, .int o_noRings, .int o_noTones, .int o_noFuel, .int o_pieces, .ref a_o_pieceParts, .int o_drags, .ref a_o_dragCell, .ref a_o_dragBy, .ref a_o_sums, .long o_all, .int o_noPieces, .int o_noDrags, .ref a_o_shares, .ref a_o_keptFar, .ref a_o_image, .int o_kept, .ref a_o_lanes, .ref a_o_sizes, .ref a_o_items, .ref a_o_movedItems]))]
def f_X7_isAssumption (x1 : Int32) (o_pieces : Int32) : Option (Int32) :=
  bd1 (f_X7_in x1.toInt64 0 12) fun r_1 =>
  if r_1 = 0 then
    some 0
  else
    if x1 < 8 then
      some 1
    else
      if x1 = 12 then
        some 1
      else
        if o_pieces ≤ (x1 - 8) then
          some 0
        else
          some 1
abbrev rm_X7_isAssumption : Room := { frames := 1, cells := 0, slots := 0, locals := 25 }
set_option maxRecDepth 100000 in
set_option maxHeartbeats 4000000 in
theorem c_X7_isAssumption (l : Launch) (dC : Nat → ClassId) (dI : Nat → Nat → Nat) (cyI cyJ cyO : ClassId) (sz : Nat) (h_o a_o_sets a_o_ringFar a_o_ringTone a_o_currents a_o_warmths a_o_depths a_o_tape a_o_readFar a_o_readTone a_o_readSea a_o_code a_o_cellAt a_o_courseAt a_o_paceAt a_o_turnsAt a_o_slowAt a_o_fuelAt a_o_ringAt a_o_pieceParts a_o_dragCell a_o_dragBy a_o_sums a_o_shares a_o_keptFar a_o_image a_o_lanes a_o_sizes a_o_items a_o_movedItems : Nat) (o_taped : Int32) (o_at : Int32) (o_wrong : Int32) (o_level : Int32) (o_noRings : Int32) (o_noTones : Int32) (o_noFuel : Int32) (o_pieces : Int32) (o_drags : Int32) (o_all : Int64) (o_noPieces : Int32) (o_noDrags : Int32) (o_kept : Int32) (x1 : Int32) (post : Int32 → Prop) (hf : okP (f_X7_isAssumption x1 o_pieces) post) : Ci l (dC, dI) (tyL cyI cyJ cyO) yX7_isAssumption wsX7_isAssumption rm_X7_isAssumption [.ref h_o, .int x1] sz (W_X7_isAssumption cyI cyJ cyO h_o a_o_sets a_o_ringFar a_o_ringTone a_o_currents a_o_warmths a_o_depths a_o_tape a_o_readFar a_o_readTone a_o_readSea a_o_code a_o_cellAt a_o_courseAt a_o_paceAt a_o_turnsAt a_o_slowAt a_o_fuelAt a_o_ringAt a_o_pieceParts a_o_dragCell a_o_dragBy a_o_sums a_o_shares a_o_keptFar a_o_image a_o_lanes a_o_sizes a_o_items a_o_movedItems o_taped o_at o_wrong o_level o_noRings o_noTones o_noFuel o_pieces o_drags o_all o_noPieces o_noDrags o_kept) zN (fun r (_ : Unit) => post r) (fun _ => (W_X7_isAssumption cyI cyJ cyO h_o a_o_sets a_o_ringFar a_o_ringTone a_o_currents a_o_warmths a_o_depths a_o_tape a_o_readFar a_o_readTone a_o_readSea a_o_code a_o_cellAt a_o_courseAt a_o_paceAt a_o_turnsAt a_o_slowAt a_o_fuelAt a_o_ringAt a_o_pieceParts a_o_dragCell a_o_dragBy a_o_sums a_o_shares a_o_keptFar a_o_image a_o_lanes a_o_sizes a_o_items a_o_movedItems o_taped o_at o_wrong o_level o_noRings o_noTones o_noFuel o_pieces o_drags o_all o_noPieces o_noDrags o_kept)) := by
  refine Met.ofW (cc := cX7_isAssumption) (maxL := 2) (ret := (some .boolean)) (by decide) rfl ?_
  intro p e s m args below meth c s₁ B hml hv
  obtain ⟨rfl, hsz, hP, hK, hD0, hZ⟩ := hv
  have hx := B.exec
  have hb := B.bytes
  have hr := B.returns
  have hts := atoms_spec (ws := wsX7_isAssumption) B.pre
  have hown : s.vm.findClass RX7 = some m.cls := findClass_of_methodNamed B.named
  have hlocks := B.notSynchronized
  subst hsz
  have hD := hD0.self (sz := s.heap.size)
  generalize hAe : va_A (W_X7_isAssumption cyI cyJ cyO h_o a_o_sets a_o_ringFar a_o_ringTone a_o_currents a_o_warmths a_o_depths a_o_tape a_o_readFar a_o_readTone a_o_readSea a_o_code a_o_cellAt a_o_courseAt a_o_paceAt a_o_turnsAt a_o_slowAt a_o_fuelAt a_o_ringAt a_o_pieceParts a_o_dragCell a_o_dragBy a_o_sums a_o_shares a_o_keptFar a_o_image a_o_lanes a_o_sizes a_o_items a_o_movedItems o_taped o_at o_wrong o_level o_noRings o_noTones o_noFuel o_pieces o_drags o_all o_noPieces o_noDrags o_kept) s.heap.size = A at hD hZ ⊢
  have hA : ∀ q : Nat, s.heap.size ≤ q → A q := fun q h => by rw [← hAe]; exact Or.inr h
  clear hAe hD0
  have hS : va_S A s.heap s.heap [] := va_S.rf
  have hl := lv_entry ([.ref h_o, .int x1]) (n := 2) (Nat.le_of_ble_eq_true rfl)
  rw [lg_entry_eq]
  generalize (lg_sl ([.ref h_o, .int x1]) ++ List.replicate (2 - (lg_sl ([.ref h_o, .int x1])).length) Slot.unset).toArray = ls at hl ⊢
  have hl : lv_has ls 2 [(0, .ref h_o), (1, .int x1)] := hl
  refine kW (fun Q hQ => ?_)
  have hq0 := hts _ (List.mem_cons_of_mem _ q_1020)
  have hq1 := hts _ (List.mem_cons_of_mem _ q_731)
  have hi7 : ∀ w ∈ u_ws RX7 TX7 42, w ∈ wsX7_isAssumption := fun w h => List.mem_cons_of_mem _ (inX7 w h)
  have hw := hf
  unfold f_X7_isAssumption at hw
  have hP : va_P (dC, dI) vwCl (W_X7_isAssumption cyI cyJ cyO h_o a_o_sets a_o_ringFar a_o_ringTone a_o_currents a_o_warmths a_o_depths a_o_tape a_o_readFar a_o_readTone a_o_readSea a_o_code a_o_cellAt a_o_courseAt a_o_paceAt a_o_turnsAt a_o_slowAt a_o_fuelAt a_o_ringAt a_o_pieceParts a_o_dragCell a_o_dragBy a_o_sums a_o_shares a_o_keptFar a_o_image a_o_lanes a_o_sizes a_o_items a_o_movedItems o_taped o_at o_wrong o_level o_noRings o_noTones o_noFuel o_pieces o_drags o_all o_noPieces o_noDrags o_kept) s.heap := hP
  obtain ⟨H, hH⟩ : ∃ H, H = s.heap := ⟨_, rfl⟩
  obtain ⟨locs, hlo⟩ : ∃ x : List Loc, x = [] := ⟨_, rfl⟩
  have hP : va_P (dC, dI) vwCl (W_X7_isAssumption cyI cyJ cyO h_o a_o_sets a_o_ringFar a_o_ringTone a_o_currents a_o_warmths a_o_depths a_o_tape a_o_readFar a_o_readTone a_o_readSea a_o_code a_o_cellAt a_o_courseAt a_o_paceAt a_o_turnsAt a_o_slowAt a_o_fuelAt a_o_ringAt a_o_pieceParts a_o_dragCell a_o_dragBy a_o_sums a_o_shares a_o_keptFar a_o_image a_o_lanes a_o_sizes a_o_items a_o_movedItems o_taped o_at o_wrong o_level o_noRings o_noTones o_noFuel o_pieces o_drags o_all o_noPieces o_noDrags o_kept) H := by rw [hH]; exact hP
  have hS : va_S A s.heap H locs := by rw [hH, hlo]; exact hS
  refine kH hH hlo ?_
  clear hH hlo
  refine lv_iload_n hx hb dX7_isAssumption_0 rfl (lv_at hl 1 rfl) ?_
  refine lv_i2l (v := x1.toInt64) hx hb dX7_isAssumption_1 rfl ?_
  refine lv_lconst (v := 0) hx hb dX7_isAssumption_2 (by decide) ?_
  refine lv_ldc2 (v := 12) hx hb hown hq0 dX7_isAssumption_3 ?_
  have hFc := va_free (wc := []) hD hS hA [] rfl
  refine kp_i (va_runS (As := [.long x1.toInt64, .long 0, .long 12]) (rest := []) ⟨hx, hb, hml, hown, hts⟩ (c_X7_in l dC dI cyI cyJ cyO H.size x1.toInt64 0 12 _ (okb1 hw)) (va_cwS 3 hts (gdS (fun w h => List.mem_cons_of_mem _ h) q_838 q_839 q_8 q_840) rfl rfl rfl (by decide +kernel) ⟨Nat.le_of_ble_eq_true rfl, Nat.le_of_ble_eq_true rfl⟩) (kpre zN_ok hK va_P0 va_D0 trivial hS hFc) rfl rfl hl.1 rfl (lv_room (Nat.le_of_ble_eq_true rfl)) dX7_isAssumption_6 ⟨Nat.le_of_ble_eq_true rfl, Nat.le_of_ble_eq_true rfl⟩) hP hD hS hFc (fun r_1 H locs hw hP hS => ?_)
  try dsimp only at hw
  clear hFc
  refine lv_if_eq (tgt := 39) hx hb dX7_isAssumption_9 (by decide) (fun c_2 => ?_) (fun c_2 => ?_)
  · replace hw := okT hw c_2
    clear c_2
    refine lv_iconst (v := 0) hx hb dX7_isAssumption_39 (by decide) ?_
    rw [hQ]
    exact W.zret (v := 0) hx hb hr (by decide) (fun t ht hW => ⟨⟨0, (), rfl, okS hw, by rw [ht]; exact hP, va_K.moved hW.alike hK, hD⟩, hS.F ht⟩) hS.2.2 dX7_isAssumption_40
  · replace hw := okF hw c_2
    clear c_2
    refine lv_iload_n hx hb dX7_isAssumption_12 rfl (lv_at hl 1 rfl) ?_
    refine lv_bipush (v := 8) hx hb dX7_isAssumption_13 (by decide) ?_
    refine lv_icmp_lt (tgt := 35) hx hb dX7_isAssumption_15 (by decide) (fun c_3 => ?_) (fun c_3 => ?_)
    · replace hw := okT hw c_3
      clear c_3
      refine lv_iconst (v := 1) hx hb dX7_isAssumption_35 (by decide) ?_
      refine lv_goto (tgt := 40) hx hb dX7_isAssumption_36 (by decide) ?_
      rw [hQ]
      exact W.zret (v := 1) hx hb hr (by decide) (fun t ht hW => ⟨⟨1, (), rfl, okS hw, by rw [ht]; exact hP, va_K.moved hW.alike hK, hD⟩, hS.F ht⟩) hS.2.2 dX7_isAssumption_40
    · replace hw := okF hw c_3
      clear c_3
      refine lv_iload_n hx hb dX7_isAssumption_18 rfl (lv_at hl 1 rfl) ?_
      refine lv_bipush (v := 12) hx hb dX7_isAssumption_19 (by decide) ?_
      refine lv_icmp_eq (tgt := 35) hx hb dX7_isAssumption_21 (by decide) (fun c_4 => ?_) (fun c_4 => ?_)
      · replace hw := okT hw c_4
        clear c_4
        refine lv_iconst (v := 1) hx hb dX7_isAssumption_35 (by decide) ?_
        refine lv_goto (tgt := 40) hx hb dX7_isAssumption_36 (by decide) ?_
        rw [hQ]
        exact W.zret (v := 1) hx hb hr (by decide) (fun t ht hW => ⟨⟨1, (), rfl, okS hw, by rw [ht]; exact hP, va_K.moved hW.alike hK, hD⟩, hS.F ht⟩) hS.2.2 dX7_isAssumption_40
      · replace hw := okF hw c_4
        clear c_4
        refine lv_iload_n hx hb dX7_isAssumption_24 rfl (lv_at hl 1 rfl) ?_
        refine lv_bipush (v := 8) hx hb dX7_isAssumption_25 (by decide) ?_
        refine lv_isub hx hb dX7_isAssumption_27 ?_
        refine lv_aload_n hx hb dX7_isAssumption_28 rfl (lv_at hl 0 rfl) ?_
        refine va_get (D := (dC, dI)) (ci := 7) (v := .int o_pieces) (C := RX7) (T := TX7) (N := 42) hx hb hts hi7 hown hK hP 0 rfl rfl 25 (by decide) hq1 (fun _ h9 => h9) rfl dX7_isAssumption_29 ?_
        refine lv_icmp_ge (tgt := 39) hx hb dX7_isAssumption_32 (by decide) (fun c_5 => ?_) (fun c_5 => ?_)
        · replace hw := okT hw c_5
          clear c_5
          refine lv_iconst (v := 0) hx hb dX7_isAssumption_39 (by decide) ?_
          rw [hQ]
          exact W.zret (v := 0) hx hb hr (by decide) (fun t ht hW => ⟨⟨0, (), rfl, okS hw, by rw [ht]; exact hP, va_K.moved hW.alike hK, hD⟩, hS.F ht⟩) hS.2.2 dX7_isAssumption_40
        · replace hw := okF hw c_5
          clear c_5
          refine lv_iconst (v := 1) hx hb dX7_isAssumption_35 (by decide) ?_
          refine lv_goto (tgt := 40) hx hb dX7_isAssumption_36 (by decide) ?_
          rw [hQ]
          exact W.zret (v := 1) hx hb hr (by decide) (fun t ht hW => ⟨⟨1, (), rfl, okS hw, by rw [ht]; exact hP, va_K.moved hW.alike hK, hD⟩, hS.F ht⟩) hS.2.2 dX7_isAssumption_40
/-! ===== X7_moves ===== -/
theorem dX7_moves_0 : decode cX7_moves 0 = .ok (.aload_n 0, 1) := by decide +kernel
theorem dX7_moves_1 : decode cX7_moves 1 = .ok (.iload_n 1, 1) := by decide +kernel
theorem dX7_moves_2 : decode cX7_moves 2 = .ok (.invokevirtual 253, 3) := by decide +kernel
theorem dX7_moves_5 : decode cX7_moves 5 = .ok (.ifCond .eq 11, 3) := by decide +kernel
theorem dX7_moves_8 : decode cX7_moves 8 = .ok (.aload_n 0, 1) := by decide +kernel
theorem dX7_moves_9 : decode cX7_moves 9 = .ok (.iload_n 1, 1) := by decide +kernel
theorem dX7_moves_10 : decode cX7_moves 10 = .ok (.invokevirtual 256, 3) := by decide +kernel
theorem dX7_moves_13 : decode cX7_moves 13 = .ok (.goto 4, 3) := by decide +kernel
theorem dX7_moves_16 : decode cX7_moves 16 = .ok (.iconst (-1), 1) := by decide +kernel
theorem dX7_moves_17 : decode cX7_moves 17 = .ok (.ireturn, 1) := by decide +kernel
abbrev W_X7_moves (cyI cyJ cyO : ClassId) (h_o a_o_sets a_o_ringFar a_o_ringTone a_o_currents a_o_warmths a_o_depths a_o_tape a_o_readFar a_o_readTone a_o_readSea a_o_code a_o_cellAt a_o_courseAt a_o_paceAt a_o_turnsAt a_o_slowAt a_o_fuelAt a_o_ringAt a_o_pieceParts a_o_dragCell a_o_dragBy a_o_sums a_o_shares a_o_keptFar a_o_image a_o_lanes a_o_sizes a_o_items a_o_movedItems : Nat) (o_taped : Int32) (o_at : Int32) (o_wrong : Int32) (o_level : Int32) (o_noRings : Int32) (o_noTones : Int32) (o_noFuel : Int32) (o_pieces : Int32) (o_drags : Int32) (o_all : Int64) (o_noPieces : Int32) (o_noDrags : Int32) (o_kept : Int32) (o_sets : Nat → Int32) (o_ringFar : Nat → Int32) (o_ringTone : Nat → Int32) (o_currents : Nat → Int32) (o_warmths : Nat → Int32) (o_code : Nat → Int32) (o_cellAt : Nat → Int32) (o_courseAt : Nat → Int32) (o_paceAt : Nat → Int32) (o_turnsAt : Nat → Int32) (o_slowAt : Nat → Int32) (o_fuelAt : Nat → Int32) (o_ringAt : Nat → Int32) (o_pieceParts : Nat → Int32) (o_dragCell : Nat → Int32) (o_dragBy : Nat → Int32) (o_sums : Nat → Int64) (o_shares : Nat → Int32) : va_W := [(h_o, .inr (7, [.ref a_o_sets, .ref a_o_ringFar, .ref a_o_ringTone, .ref a_o_currents, .ref a_o_warmths, .ref a_o_depths, .ref a_o_tape, .int o_taped, .int o_at, .int o_wrong, .ref a_o_readFar, .ref a_o_readTone, .ref a_o_readSea, .ref a_o_code, .ref a_o_cellAt, .ref a_o_courseAt, .ref a_o_paceAt, .ref a_o_turnsAt, .ref a_o_slowAt, .ref a_o_fuelAt, .ref a_o_ringAt, .int o_level, .int o_noRings, .int o_noTones, .int o_noFuel, .int o_pieces, .ref a_o_pieceParts, .int o_drags, .ref a_o_dragCell, .ref a_o_dragBy, .ref a_o_sums, .long o_all, .int o_noPieces, .int o_noDrags, .ref a_o_shares, .ref a_o_keptFar, .ref a_o_image, .int o_kept, .ref a_o_lanes, .ref a_o_sizes, .ref a_o_items, .ref a_o_movedItems])), (a_o_sets, .inl (cyI, 8, .inl o_sets)), (a_o_ringFar, .inl (cyI, 7, .inl o_ringFar)), (a_o_ringTone, .inl (cyI, 7, .inl o_ringTone)), (a_o_currents, .inl (cyI, 200, .inl o_currents)), (a_o_warmths, .inl (cyI, 200, .inl o_warmths)), (a_o_code, .inl (cyI, 7, .inl o_code)), (a_o_cellAt, .inl (cyI, 7, .inl o_cellAt)), (a_o_courseAt, .inl (cyI, 7, .inl o_courseAt)), (a_o_paceAt, .inl (cyI, 7, .inl o_paceAt)), (a_o_turnsAt, .inl (cyI, 7, .inl o_turnsAt)), (a_o_slowAt, .inl (cyI, 7, .inl o_slowAt)), (a_o_fuelAt, .inl (cyI, 7, .inl o_fuelAt)), (a_o_ringAt, .inl (cyI, 7, .inl o_ringAt)), (a_o_pieceParts, .inl (cyI, 20, .inl o_pieceParts)), (a_o_dragCell, .inl (cyI, 6, .inl o_dragCell)), (a_o_dragBy, .inl (cyI, 6, .inl o_dragBy)), (a_o_sums, .inl (cyJ, 100, .inr (.inl o_sums))), (a_o_shares, .inl (cyI, 100, .inl o_shares))]
def f_X7_moves (x1 : Int32) (o_level : Int32) (o_noRings : Int32) (o_noTones : Int32) (o_noFuel : Int32) (o_pieces : Int32) (o_drags : Int32) (o_all : Int64) (o_noPieces : Int32) (o_noDrags : Int32) (o_sets : Nat → Int32) (o_ringFar : Nat → Int32) (o_ringTone : Nat → Int32) (o_currents : Nat → Int32) (o_warmths : Nat → Int32) (o_code : Nat → Int32) (o_cellAt : Nat → Int32) (o_courseAt : Nat → Int32) (o_paceAt : Nat → Int32) (o_turnsAt : Nat → Int32) (o_slowAt : Nat → Int32) (o_fuelAt : Nat → Int32) (o_ringAt : Nat → Int32) (o_pieceParts : Nat → Int32) (o_dragCell : Nat → Int32) (o_dragBy : Nat → Int32) (o_sums : Nat → Int64) (o_shares : Nat → Int32) : Option (Int32 × Int32 × Int32 × Int32 × Int32 × Int64 × Int32 × Int32 × (Nat → Int32) × (Nat → Int32) × (Nat → Int32) × (Nat → Int32) × (Nat → Int32) × (Nat → Int32) × (Nat → Int32) × (Nat → Int32) × (Nat → Int64) × (Nat → Int32)) :=
  bd1 (f_X7_isAssumption x1 o_pieces) fun r_1 =>
  if r_1 = 0 then
    some ((-1), o_level, o_noRings, o_noTones, o_noFuel, o_all, o_noPieces, o_noDrags, o_code, o_cellAt, o_courseAt, o_paceAt, o_turnsAt, o_slowAt, o_fuelAt, o_ringAt, o_sums, o_shares)
  else
    bd18 (f_X7_moved x1 o_level o_noRings o_noTones o_noFuel o_pieces o_drags o_all o_noPieces o_noDrags o_sets o_ringFar o_ringTone o_currents o_warmths o_code o_cellAt o_courseAt o_paceAt o_turnsAt o_slowAt o_fuelAt o_ringAt o_pieceParts o_dragCell o_dragBy o_sums o_shares) fun r_2 w_3 w_4 w_5 w_6 w_7 w_8 w_9 w_10 w_11 w_12 w_13 w_14 w_15 w_16 w_17 w_18 w_19 =>
    some (r_2, w_3, w_4, w_5, w_6, w_7, w_8, w_9, w_10, w_11, w_12, w_13, w_14, w_15, w_16, w_17, w_18, w_19)
abbrev rm_X7_moves : Room := { frames := 7, cells := 0, slots := 0, locals := 173 }
set_option maxRecDepth 100000 in
set_option maxHeartbeats 4000000 in
theorem c_X7_moves (l : Launch) (dC : Nat → ClassId) (dI : Nat → Nat → Nat) (cyI cyJ cyO : ClassId) (sz : Nat) (h_o a_o_sets a_o_ringFar a_o_ringTone a_o_currents a_o_warmths a_o_depths a_o_tape a_o_readFar a_o_readTone a_o_readSea a_o_code a_o_cellAt a_o_courseAt a_o_paceAt a_o_turnsAt a_o_slowAt a_o_fuelAt a_o_ringAt a_o_pieceParts a_o_dragCell a_o_dragBy a_o_sums a_o_shares a_o_keptFar a_o_image a_o_lanes a_o_sizes a_o_items a_o_movedItems : Nat) (o_taped : Int32) (o_at : Int32) (o_wrong : Int32) (o_level : Int32) (o_noRings : Int32) (o_noTones : Int32) (o_noFuel : Int32) (o_pieces : Int32) (o_drags : Int32) (o_all : Int64) (o_noPieces : Int32) (o_noDrags : Int32) (o_kept : Int32) (o_sets : Nat → Int32) (o_ringFar : Nat → Int32) (o_ringTone : Nat → Int32) (o_currents : Nat → Int32) (o_warmths : Nat → Int32) (o_code : Nat → Int32) (o_cellAt : Nat → Int32) (o_courseAt : Nat → Int32) (o_paceAt : Nat → Int32) (o_turnsAt : Nat → Int32) (o_slowAt : Nat → Int32) (o_fuelAt : Nat → Int32) (o_ringAt : Nat → Int32) (o_pieceParts : Nat → Int32) (o_dragCell : Nat → Int32) (o_dragBy : Nat → Int32) (o_sums : Nat → Int64) (o_shares : Nat → Int32) (x1 : Int32) (post : (Int32 × Int32 × Int32 × Int32 × Int32 × Int64 × Int32 × Int32 × (Nat → Int32) × (Nat → Int32) × (Nat → Int32) × (Nat → Int32) × (Nat → Int32) × (Nat → Int32) × (Nat → Int32) × (Nat → Int32) × (Nat → Int64) × (Nat → Int32)) → Prop) (hf : okP (f_X7_moves x1 o_level o_noRings o_noTones o_noFuel o_pieces o_drags o_all o_noPieces o_noDrags o_sets o_ringFar o_ringTone o_currents o_warmths o_code o_cellAt o_courseAt o_paceAt o_turnsAt o_slowAt o_fuelAt o_ringAt o_pieceParts o_dragCell o_dragBy o_sums o_shares) post) : Ci l (dC, dI) (tyL cyI cyJ cyO) yX7_moves wsX7_moves rm_X7_moves [.ref h_o, .int x1] sz (W_X7_moves cyI cyJ cyO h_o a_o_sets a_o_ringFar a_o_ringTone a_o_currents a_o_warmths a_o_depths a_o_tape a_o_readFar a_o_readTone a_o_readSea a_o_code a_o_cellAt a_o_courseAt a_o_paceAt a_o_turnsAt a_o_slowAt a_o_fuelAt a_o_ringAt a_o_pieceParts a_o_dragCell a_o_dragBy a_o_sums a_o_shares a_o_keptFar a_o_image a_o_lanes a_o_sizes a_o_items a_o_movedItems o_taped o_at o_wrong o_level o_noRings o_noTones o_noFuel o_pieces o_drags o_all o_noPieces o_noDrags o_kept o_sets o_ringFar o_ringTone o_currents o_warmths o_code o_cellAt o_courseAt o_paceAt o_turnsAt o_slowAt o_fuelAt o_ringAt o_pieceParts o_dragCell o_dragBy o_sums o_shares) zN (fun r u => post (r, u)) (fun u => (W_X7_moves cyI cyJ cyO h_o a_o_sets a_o_ringFar a_o_ringTone a_o_currents a_o_warmths a_o_depths a_o_tape a_o_readFar a_o_readTone a_o_readSea a_o_code a_o_cellAt a_o_courseAt a_o_paceAt a_o_turnsAt a_o_slowAt a_o_fuelAt a_o_ringAt a_o_pieceParts a_o_dragCell a_o_dragBy a_o_sums a_o_shares a_o_keptFar a_o_image a_o_lanes a_o_sizes a_o_items a_o_movedItems o_taped o_at o_wrong u.1 u.2.1 u.2.2.1 u.2.2.2.1 o_pieces o_drags u.2.2.2.2.1 u.2.2.2.2.2.1 u.2.2.2.2.2.2.1 o_kept o_sets o_ringFar o_ringTone o_currents o_warmths u.2.2.2.2.2.2.2.1 u.2.2.2.2.2.2.2.2.1 u.2.2.2.2.2.2.2.2.2.1 u.2.2.2.2.2.2.2.2.2.2.1 u.2.2.2.2.2.2.2.2.2.2.2.1 u.2.2.2.2.2.2.2.2.2.2.2.2.1 u.2.2.2.2.2.2.2.2.2.2.2.2.2.1 u.2.2.2.2.2.2.2.2.2.2.2.2.2.2.1 o_pieceParts o_dragCell o_dragBy u.2.2.2.2.2.2.2.2.2.2.2.2.2.2.2.1 u.2.2.2.2.2.2.2.2.2.2.2.2.2.2.2.2)) := by
  refine Met.ofW (cc := cX7_moves) (maxL := 2) (ret := (some .int)) (by decide) rfl ?_
  intro p e s m args below meth c s₁ B hml hv
  obtain ⟨rfl, hsz, hP, hK, hD0, hZ⟩ := hv
  have hx := B.exec
  have hb := B.bytes
  have hr := B.returns
  have hts := atoms_spec (ws := wsX7_moves) B.pre
  have hown : s.vm.findClass RX7 = some m.cls := findClass_of_methodNamed B.named
  have hlocks := B.notSynchronized
  subst hsz
  have hD := hD0.self (sz := s.heap.size)
  generalize hAe : va_A (W_X7_moves cyI cyJ cyO h_o a_o_sets a_o_ringFar a_o_ringTone a_o_currents a_o_warmths a_o_depths a_o_tape a_o_readFar a_o_readTone a_o_readSea a_o_code a_o_cellAt a_o_courseAt a_o_paceAt a_o_turnsAt a_o_slowAt a_o_fuelAt a_o_ringAt a_o_pieceParts a_o_dragCell a_o_dragBy a_o_sums a_o_shares a_o_keptFar a_o_image a_o_lanes a_o_sizes a_o_items a_o_movedItems o_taped o_at o_wrong o_level o_noRings o_noTones o_noFuel o_pieces o_drags o_all o_noPieces o_noDrags o_kept o_sets o_ringFar o_ringTone o_currents o_warmths o_code o_cellAt o_courseAt o_paceAt o_turnsAt o_slowAt o_fuelAt o_ringAt o_pieceParts o_dragCell o_dragBy o_sums o_shares) s.heap.size = A at hD hZ ⊢
  have hA : ∀ q : Nat, s.heap.size ≤ q → A q := fun q h => by rw [← hAe]; exact Or.inr h
  clear hAe hD0
  have hS : va_S A s.heap s.heap [] := va_S.rf
  have hl := lv_entry ([.ref h_o, .int x1]) (n := 2) (Nat.le_of_ble_eq_true rfl)
  rw [lg_entry_eq]
  generalize (lg_sl ([.ref h_o, .int x1]) ++ List.replicate (2 - (lg_sl ([.ref h_o, .int x1])).length) Slot.unset).toArray = ls at hl ⊢
  have hl : lv_has ls 2 [(0, .ref h_o), (1, .int x1)] := hl
  refine kW (fun Q hQ => ?_)
  have hw := hf
  unfold f_X7_moves at hw
  have hP : va_P (dC, dI) vwCl (W_X7_moves cyI cyJ cyO h_o a_o_sets a_o_ringFar a_o_ringTone a_o_currents a_o_warmths a_o_depths a_o_tape a_o_readFar a_o_readTone a_o_readSea a_o_code a_o_cellAt a_o_courseAt a_o_paceAt a_o_turnsAt a_o_slowAt a_o_fuelAt a_o_ringAt a_o_pieceParts a_o_dragCell a_o_dragBy a_o_sums a_o_shares a_o_keptFar a_o_image a_o_lanes a_o_sizes a_o_items a_o_movedItems o_taped o_at o_wrong o_level o_noRings o_noTones o_noFuel o_pieces o_drags o_all o_noPieces o_noDrags o_kept o_sets o_ringFar o_ringTone o_currents o_warmths o_code o_cellAt o_courseAt o_paceAt o_turnsAt o_slowAt o_fuelAt o_ringAt o_pieceParts o_dragCell o_dragBy o_sums o_shares) s.heap := hP
  obtain ⟨H, hH⟩ : ∃ H, H = s.heap := ⟨_, rfl⟩
  obtain ⟨locs, hlo⟩ : ∃ x : List Loc, x = [] := ⟨_, rfl⟩
  have hP : va_P (dC, dI) vwCl (W_X7_moves cyI cyJ cyO h_o a_o_sets a_o_ringFar a_o_ringTone a_o_currents a_o_warmths a_o_depths a_o_tape a_o_readFar a_o_readTone a_o_readSea a_o_code a_o_cellAt a_o_courseAt a_o_paceAt a_o_turnsAt a_o_slowAt a_o_fuelAt a_o_ringAt a_o_pieceParts a_o_dragCell a_o_dragBy a_o_sums a_o_shares a_o_keptFar a_o_image a_o_lanes a_o_sizes a_o_items a_o_movedItems o_taped o_at o_wrong o_level o_noRings o_noTones o_noFuel o_pieces o_drags o_all o_noPieces o_noDrags o_kept o_sets o_ringFar o_ringTone o_currents o_warmths o_code o_cellAt o_courseAt o_paceAt o_turnsAt o_slowAt o_fuelAt o_ringAt o_pieceParts o_dragCell o_dragBy o_sums o_shares) H := by rw [hH]; exact hP
  have hS : va_S A s.heap H locs := by rw [hH, hlo]; exact hS
  refine kH hH hlo ?_
  clear hH hlo
  refine lv_aload_n hx hb dX7_moves_0 rfl (lv_at hl 0 rfl) ?_
  refine lv_iload_n hx hb dX7_moves_1 rfl (lv_at hl 1 rfl) ?_
  have hPc := hP.sub (ws' := (W_X7_isAssumption cyI cyJ cyO h_o a_o_sets a_o_ringFar a_o_ringTone a_o_currents a_o_warmths a_o_depths a_o_tape a_o_readFar a_o_readTone a_o_readSea a_o_code a_o_cellAt a_o_courseAt a_o_paceAt a_o_turnsAt a_o_slowAt a_o_fuelAt a_o_ringAt a_o_pieceParts a_o_dragCell a_o_dragBy a_o_sums a_o_shares a_o_keptFar a_o_image a_o_lanes a_o_sizes a_o_items a_o_movedItems o_taped o_at o_wrong o_level o_noRings o_noTones o_noFuel o_pieces o_drags o_all o_noPieces o_noDrags o_kept)) [0] rfl
  have hDc := hD.sub (ws' := (W_X7_isAssumption cyI cyJ cyO h_o a_o_sets a_o_ringFar a_o_ringTone a_o_currents a_o_warmths a_o_depths a_o_tape a_o_readFar a_o_readTone a_o_readSea a_o_code a_o_cellAt a_o_courseAt a_o_paceAt a_o_turnsAt a_o_slowAt a_o_fuelAt a_o_ringAt a_o_pieceParts a_o_dragCell a_o_dragBy a_o_sums a_o_shares a_o_keptFar a_o_image a_o_lanes a_o_sizes a_o_items a_o_movedItems o_taped o_at o_wrong o_level o_noRings o_noTones o_noFuel o_pieces o_drags o_all o_noPieces o_noDrags o_kept)) [0] (by decide +kernel) rfl
  have hFc := va_free (wc := (W_X7_isAssumption cyI cyJ cyO h_o a_o_sets a_o_ringFar a_o_ringTone a_o_currents a_o_warmths a_o_depths a_o_tape a_o_readFar a_o_readTone a_o_readSea a_o_code a_o_cellAt a_o_courseAt a_o_paceAt a_o_turnsAt a_o_slowAt a_o_fuelAt a_o_ringAt a_o_pieceParts a_o_dragCell a_o_dragBy a_o_sums a_o_shares a_o_keptFar a_o_image a_o_lanes a_o_sizes a_o_items a_o_movedItems o_taped o_at o_wrong o_level o_noRings o_noTones o_noFuel o_pieces o_drags o_all o_noPieces o_noDrags o_kept)) hD hS hA [0] rfl
  refine kc_i (wr := [(a_o_sets, .inl (cyI, 8, .inl o_sets)), (a_o_ringFar, .inl (cyI, 7, .inl o_ringFar)), (a_o_ringTone, .inl (cyI, 7, .inl o_ringTone)), (a_o_currents, .inl (cyI, 200, .inl o_currents)), (a_o_warmths, .inl (cyI, 200, .inl o_warmths)), (a_o_code, .inl (cyI, 7, .inl o_code)), (a_o_cellAt, .inl (cyI, 7, .inl o_cellAt)), (a_o_courseAt, .inl (cyI, 7, .inl o_courseAt)), (a_o_paceAt, .inl (cyI, 7, .inl o_paceAt)), (a_o_turnsAt, .inl (cyI, 7, .inl o_turnsAt)), (a_o_slowAt, .inl (cyI, 7, .inl o_slowAt)), (a_o_fuelAt, .inl (cyI, 7, .inl o_fuelAt)), (a_o_ringAt, .inl (cyI, 7, .inl o_ringAt)), (a_o_pieceParts, .inl (cyI, 20, .inl o_pieceParts)), (a_o_dragCell, .inl (cyI, 6, .inl o_dragCell)), (a_o_dragBy, .inl (cyI, 6, .inl o_dragBy)), (a_o_sums, .inl (cyJ, 100, .inr (.inl o_sums))), (a_o_shares, .inl (cyI, 100, .inl o_shares))]) (va_runV (As := [.int x1]) (rest := []) ⟨hx, hb, hml, hown, hts⟩ (c_X7_isAssumption l dC dI cyI cyJ cyO H.size h_o a_o_sets a_o_ringFar a_o_ringTone a_o_currents a_o_warmths a_o_depths a_o_tape a_o_readFar a_o_readTone a_o_readSea a_o_code a_o_cellAt a_o_courseAt a_o_paceAt a_o_turnsAt a_o_slowAt a_o_fuelAt a_o_ringAt a_o_pieceParts a_o_dragCell a_o_dragBy a_o_sums a_o_shares a_o_keptFar a_o_image a_o_lanes a_o_sizes a_o_items a_o_movedItems o_taped o_at o_wrong o_level o_noRings o_noTones o_noFuel o_pieces o_drags o_all o_noPieces o_noDrags o_kept x1 _ (okb1 hw)) (cwV 1 hts (gdV (fun w h => List.mem_cons_of_mem _ h) q_1016 q_1018 qs_40 q_8 q_1019) rfl rfl rfl (by decide +kernel) ⟨Nat.le_of_ble_eq_true rfl, Nat.le_of_ble_eq_true rfl⟩) ⟨(kpre zN_ok hK hPc hDc trivial hS hFc).1, va_recv hK hP (ci := 7) (q0 := 0) rfl rfl, (kpre zN_ok hK hPc hDc trivial hS hFc).2⟩ rfl rfl hl.1 rfl (lv_room (Nat.le_of_ble_eq_true rfl)) dX7_moves_2 ⟨Nat.le_of_ble_eq_true rfl, Nat.le_of_ble_eq_true rfl⟩) hP hD hS hFc [0] [1, 2, 3, 4, 5, 6, 7, 8, 9, 10, 11, 12, 13, 14, 15, 16, 17, 18] rfl rfl (by decide +kernel) (by decide +kernel) (fun r_1 u H locs hw hP hD hS => ?_)
  try dsimp only at hw
  have hP : va_P (dC, dI) vwCl (W_X7_moves cyI cyJ cyO h_o a_o_sets a_o_ringFar a_o_ringTone a_o_currents a_o_warmths a_o_depths a_o_tape a_o_readFar a_o_readTone a_o_readSea a_o_code a_o_cellAt a_o_courseAt a_o_paceAt a_o_turnsAt a_o_slowAt a_o_fuelAt a_o_ringAt a_o_pieceParts a_o_dragCell a_o_dragBy a_o_sums a_o_shares a_o_keptFar a_o_image a_o_lanes a_o_sizes a_o_items a_o_movedItems o_taped o_at o_wrong o_level o_noRings o_noTones o_noFuel o_pieces o_drags o_all o_noPieces o_noDrags o_kept o_sets o_ringFar o_ringTone o_currents o_warmths o_code o_cellAt o_courseAt o_paceAt o_turnsAt o_slowAt o_fuelAt o_ringAt o_pieceParts o_dragCell o_dragBy o_sums o_shares) H := hP.sub [18, 0, 1, 2, 3, 4, 5, 6, 7, 8, 9, 10, 11, 12, 13, 14, 15, 16, 17] rfl
  have hD : va_D A (W_X7_moves cyI cyJ cyO h_o a_o_sets a_o_ringFar a_o_ringTone a_o_currents a_o_warmths a_o_depths a_o_tape a_o_readFar a_o_readTone a_o_readSea a_o_code a_o_cellAt a_o_courseAt a_o_paceAt a_o_turnsAt a_o_slowAt a_o_fuelAt a_o_ringAt a_o_pieceParts a_o_dragCell a_o_dragBy a_o_sums a_o_shares a_o_keptFar a_o_image a_o_lanes a_o_sizes a_o_items a_o_movedItems o_taped o_at o_wrong o_level o_noRings o_noTones o_noFuel o_pieces o_drags o_all o_noPieces o_noDrags o_kept o_sets o_ringFar o_ringTone o_currents o_warmths o_code o_cellAt o_courseAt o_paceAt o_turnsAt o_slowAt o_fuelAt o_ringAt o_pieceParts o_dragCell o_dragBy o_sums o_shares) := hD.sub [18, 0, 1, 2, 3, 4, 5, 6, 7, 8, 9, 10, 11, 12, 13, 14, 15, 16, 17] (by decide +kernel) rfl
  clear hPc hDc hFc
  refine lv_if_eq (tgt := 16) hx hb dX7_moves_5 (by decide) (fun c_2 => ?_) (fun c_2 => ?_)
  · replace hw := okT hw c_2
    clear c_2
    refine lv_iconst (v := (-1)) hx hb dX7_moves_16 (by decide) ?_
    rw [hQ]
    exact W.iret (v := (-1)) hx hb hr (fun t ht hW => ⟨⟨(-1), (o_level, o_noRings, o_noTones, o_noFuel, o_all, o_noPieces, o_noDrags, o_code, o_cellAt, o_courseAt, o_paceAt, o_turnsAt, o_slowAt, o_fuelAt, o_ringAt, o_sums, o_shares), rfl, okS hw, by rw [ht]; exact hP, va_K.moved hW.alike hK, hD⟩, hS.F ht⟩) hS.2.2 dX7_moves_17
  · replace hw := okF hw c_2
    clear c_2
    refine lv_aload_n hx hb dX7_moves_8 rfl (lv_at hl 0 rfl) ?_
    refine lv_iload_n hx hb dX7_moves_9 rfl (lv_at hl 1 rfl) ?_
    have hPc := hP.sub (ws' := (W_X7_moved cyI cyJ cyO h_o a_o_sets a_o_ringFar a_o_ringTone a_o_currents a_o_warmths a_o_depths a_o_tape a_o_readFar a_o_readTone a_o_readSea a_o_code a_o_cellAt a_o_courseAt a_o_paceAt a_o_turnsAt a_o_slowAt a_o_fuelAt a_o_ringAt a_o_pieceParts a_o_dragCell a_o_dragBy a_o_sums a_o_shares a_o_keptFar a_o_image a_o_lanes a_o_sizes a_o_items a_o_movedItems o_taped o_at o_wrong o_level o_noRings o_noTones o_noFuel o_pieces o_drags o_all o_noPieces o_noDrags o_kept o_sets o_ringFar o_ringTone o_currents o_warmths o_code o_cellAt o_courseAt o_paceAt o_turnsAt o_slowAt o_fuelAt o_ringAt o_pieceParts o_dragCell o_dragBy o_sums o_shares)) [0, 1, 2, 3, 4, 5, 6, 7, 8, 9, 10, 11, 12, 13, 14, 15, 16, 17, 18] rfl
    have hDc := hD.sub (ws' := (W_X7_moved cyI cyJ cyO h_o a_o_sets a_o_ringFar a_o_ringTone a_o_currents a_o_warmths a_o_depths a_o_tape a_o_readFar a_o_readTone a_o_readSea a_o_code a_o_cellAt a_o_courseAt a_o_paceAt a_o_turnsAt a_o_slowAt a_o_fuelAt a_o_ringAt a_o_pieceParts a_o_dragCell a_o_dragBy a_o_sums a_o_shares a_o_keptFar a_o_image a_o_lanes a_o_sizes a_o_items a_o_movedItems o_taped o_at o_wrong o_level o_noRings o_noTones o_noFuel o_pieces o_drags o_all o_noPieces o_noDrags o_kept o_sets o_ringFar o_ringTone o_currents o_warmths o_code o_cellAt o_courseAt o_paceAt o_turnsAt o_slowAt o_fuelAt o_ringAt o_pieceParts o_dragCell o_dragBy o_sums o_shares)) [0, 1, 2, 3, 4, 5, 6, 7, 8, 9, 10, 11, 12, 13, 14, 15, 16, 17, 18] (by decide +kernel) rfl
    have hFc := va_free (wc := (W_X7_moved cyI cyJ cyO h_o a_o_sets a_o_ringFar a_o_ringTone a_o_currents a_o_warmths a_o_depths a_o_tape a_o_readFar a_o_readTone a_o_readSea a_o_code a_o_cellAt a_o_courseAt a_o_paceAt a_o_turnsAt a_o_slowAt a_o_fuelAt a_o_ringAt a_o_pieceParts a_o_dragCell a_o_dragBy a_o_sums a_o_shares a_o_keptFar a_o_image a_o_lanes a_o_sizes a_o_items a_o_movedItems o_taped o_at o_wrong o_level o_noRings o_noTones o_noFuel o_pieces o_drags o_all o_noPieces o_noDrags o_kept o_sets o_ringFar o_ringTone o_currents o_warmths o_code o_cellAt o_courseAt o_paceAt o_turnsAt o_slowAt o_fuelAt o_ringAt o_pieceParts o_dragCell o_dragBy o_sums o_shares)) hD hS hA [0, 1, 2, 3, 4, 5, 6, 7, 8, 9, 10, 11, 12, 13, 14, 15, 16, 17, 18] rfl
    refine kc_i (wr := []) (va_runV (As := [.int x1]) (rest := []) ⟨hx, hb, hml, hown, hts⟩ (c_X7_moved l dC dI cyI cyJ cyO H.size h_o a_o_sets a_o_ringFar a_o_ringTone a_o_currents a_o_warmths a_o_depths a_o_tape a_o_readFar a_o_readTone a_o_readSea a_o_code a_o_cellAt a_o_courseAt a_o_paceAt a_o_turnsAt a_o_slowAt a_o_fuelAt a_o_ringAt a_o_pieceParts a_o_dragCell a_o_dragBy a_o_sums a_o_shares a_o_keptFar a_o_image a_o_lanes a_o_sizes a_o_items a_o_movedItems o_taped o_at o_wrong o_level o_noRings o_noTones o_noFuel o_pieces o_drags o_all o_noPieces o_noDrags o_kept o_sets o_ringFar o_ringTone o_currents o_warmths o_code o_cellAt o_courseAt o_paceAt o_turnsAt o_slowAt o_fuelAt o_ringAt o_pieceParts o_dragCell o_dragBy o_sums o_shares x1 _ (okb18 hw)) (cwV 1 hts (gdV (fun w h => List.mem_cons_of_mem _ h) q_1021 q_1023 qs_41 q_8 q_1024) rfl rfl rfl (by decide +kernel) ⟨Nat.le_of_ble_eq_true rfl, Nat.le_of_ble_eq_true rfl⟩) ⟨(kpre zN_ok hK hPc hDc trivial hS hFc).1, va_recv hK hP (ci := 7) (q0 := 0) rfl rfl, (kpre zN_ok hK hPc hDc trivial hS hFc).2⟩ rfl rfl hl.1 rfl (lv_room (Nat.le_of_ble_eq_true rfl)) dX7_moves_10 ⟨Nat.le_of_ble_eq_true rfl, Nat.le_of_ble_eq_true rfl⟩) hP hD hS hFc [0, 1, 2, 3, 4, 5, 6, 7, 8, 9, 10, 11, 12, 13, 14, 15, 16, 17, 18] [] rfl rfl (by decide +kernel) (by decide +kernel) (fun r_3 u H locs hw hP hD hS => ?_)
    obtain ⟨w_4, w_5, w_6, w_7, w_8, w_9, w_10, w_11, w_12, w_13, w_14, w_15, w_16, w_17, w_18, w_19, w_20⟩ := u
    try dsimp only at hw
    have hP : va_P (dC, dI) vwCl (W_X7_moves cyI cyJ cyO h_o a_o_sets a_o_ringFar a_o_ringTone a_o_currents a_o_warmths a_o_depths a_o_tape a_o_readFar a_o_readTone a_o_readSea a_o_code a_o_cellAt a_o_courseAt a_o_paceAt a_o_turnsAt a_o_slowAt a_o_fuelAt a_o_ringAt a_o_pieceParts a_o_dragCell a_o_dragBy a_o_sums a_o_shares a_o_keptFar a_o_image a_o_lanes a_o_sizes a_o_items a_o_movedItems o_taped o_at o_wrong w_4 w_5 w_6 w_7 o_pieces o_drags w_8 w_9 w_10 o_kept o_sets o_ringFar o_ringTone o_currents o_warmths w_11 w_12 w_13 w_14 w_15 w_16 w_17 w_18 o_pieceParts o_dragCell o_dragBy w_19 w_20) H := hP.sub [0, 1, 2, 3, 4, 5, 6, 7, 8, 9, 10, 11, 12, 13, 14, 15, 16, 17, 18] rfl
    have hD : va_D A (W_X7_moves cyI cyJ cyO h_o a_o_sets a_o_ringFar a_o_ringTone a_o_currents a_o_warmths a_o_depths a_o_tape a_o_readFar a_o_readTone a_o_readSea a_o_code a_o_cellAt a_o_courseAt a_o_paceAt a_o_turnsAt a_o_slowAt a_o_fuelAt a_o_ringAt a_o_pieceParts a_o_dragCell a_o_dragBy a_o_sums a_o_shares a_o_keptFar a_o_image a_o_lanes a_o_sizes a_o_items a_o_movedItems o_taped o_at o_wrong w_4 w_5 w_6 w_7 o_pieces o_drags w_8 w_9 w_10 o_kept o_sets o_ringFar o_ringTone o_currents o_warmths w_11 w_12 w_13 w_14 w_15 w_16 w_17 w_18 o_pieceParts o_dragCell o_dragBy w_19 w_20) := hD.sub [0, 1, 2, 3, 4, 5, 6, 7, 8, 9, 10, 11, 12, 13, 14, 15, 16, 17, 18] (by decide +kernel) rfl
    clear hPc hDc hFc
    refine lv_goto (tgt := 17) hx hb dX7_moves_13 (by decide) ?_
    rw [hQ]
    exact W.iret (v := r_3) hx hb hr (fun t ht hW => ⟨⟨r_3, (w_4, w_5, w_6, w_7, w_8, w_9, w_10, w_11, w_12, w_13, w_14, w_15, w_16, w_17, w_18, w_19, w_20), rfl, okS hw, by rw [ht]; exact hP, va_K.moved hW.alike hK, hD⟩, hS.F ht⟩) hS.2.2 dX7_moves_17
/-! ===== X7_most ===== -/
theorem dX7_most_0 : decode cX7_most 0 = .ok (.iconst 0, 1) := by decide +kernel
theorem dX7_most_1 : decode cX7_most 1 = .ok (.istore_n 1, 1) := by decide +kernel
theorem dX7_most_2 : decode cX7_most 2 = .ok (.iconst (-1), 1) := by decide +kernel
theorem dX7_most_3 : decode cX7_most 3 = .ok (.istore_n 2, 1) := by decide +kernel
theorem dX7_most_4 : decode cX7_most 4 = .ok (.iconst 0, 1) := by decide +kernel
theorem dX7_most_5 : decode cX7_most 5 = .ok (.istore_n 3, 1) := by decide +kernel
theorem dX7_most_6 : decode cX7_most 6 = .ok (.iload_n 3, 1) := by decide +kernel
theorem dX7_most_7 : decode cX7_most 7 = .ok (.bipush 13, 2) := by decide +kernel
theorem dX7_most_9 : decode cX7_most 9 = .ok (.if_icmp .ge 53, 3) := by decide +kernel
theorem dX7_most_12 : decode cX7_most 12 = .ok (.aload_n 0, 1) := by decide +kernel
theorem dX7_most_13 : decode cX7_most 13 = .ok (.iload_n 3, 1) := by decide +kernel
theorem dX7_most_14 : decode cX7_most 14 = .ok (.invokevirtual 253, 3) := by decide +kernel
theorem dX7_most_17 : decode cX7_most 17 = .ok (.ifCond .eq 11, 3) := by decide +kernel
theorem dX7_most_20 : decode cX7_most 20 = .ok (.aload_n 0, 1) := by decide +kernel
theorem dX7_most_21 : decode cX7_most 21 = .ok (.iload_n 3, 1) := by decide +kernel
theorem dX7_most_22 : decode cX7_most 22 = .ok (.invokevirtual 256, 3) := by decide +kernel
theorem dX7_most_25 : decode cX7_most 25 = .ok (.goto 4, 3) := by decide +kernel
theorem dX7_most_28 : decode cX7_most 28 = .ok (.iconst (-1), 1) := by decide +kernel
theorem dX7_most_29 : decode cX7_most 29 = .ok (.istore 4, 2) := by decide +kernel
theorem dX7_most_31 : decode cX7_most 31 = .ok (.iload 4, 2) := by decide +kernel
theorem dX7_most_33 : decode cX7_most 33 = .ok (.iload_n 2, 1) := by decide +kernel
theorem dX7_most_34 : decode cX7_most 34 = .ok (.if_icmp .le 7, 3) := by decide +kernel
theorem dX7_most_37 : decode cX7_most 37 = .ok (.iload_n 3, 1) := by decide +kernel
theorem dX7_most_38 : decode cX7_most 38 = .ok (.goto 4, 3) := by decide +kernel
theorem dX7_most_41 : decode cX7_most 41 = .ok (.iload_n 1, 1) := by decide +kernel
theorem dX7_most_42 : decode cX7_most 42 = .ok (.istore_n 1, 1) := by decide +kernel
theorem dX7_most_43 : decode cX7_most 43 = .ok (.iload 4, 2) := by decide +kernel
theorem dX7_most_45 : decode cX7_most 45 = .ok (.iload_n 2, 1) := by decide +kernel
theorem dX7_most_46 : decode cX7_most 46 = .ok (.if_icmp .le 8, 3) := by decide +kernel
theorem dX7_most_49 : decode cX7_most 49 = .ok (.iload 4, 2) := by decide +kernel
theorem dX7_most_51 : decode cX7_most 51 = .ok (.goto 4, 3) := by decide +kernel
theorem dX7_most_54 : decode cX7_most 54 = .ok (.iload_n 2, 1) := by decide +kernel
theorem dX7_most_55 : decode cX7_most 55 = .ok (.istore_n 2, 1) := by decide +kernel
theorem dX7_most_56 : decode cX7_most 56 = .ok (.iinc 3 1, 3) := by decide +kernel
theorem dX7_most_59 : decode cX7_most 59 = .ok (.goto (-53), 3) := by decide +kernel
theorem dX7_most_62 : decode cX7_most 62 = .ok (.iload_n 1, 1) := by decide +kernel
theorem dX7_most_63 : decode cX7_most 63 = .ok (.ireturn, 1) := by decide +kernel
abbrev W_X7_most (cyI cyJ cyO : ClassId) (h_o a_o_sets a_o_ringFar a_o_ringTone a_o_currents a_o_warmths a_o_depths a_o_tape a_o_readFar a_o_readTone a_o_readSea a_o_code a_o_cellAt a_o_courseAt a_o_paceAt a_o_turnsAt a_o_slowAt a_o_fuelAt a_o_ringAt a_o_pieceParts a_o_dragCell a_o_dragBy a_o_sums a_o_shares a_o_keptFar a_o_image a_o_lanes a_o_sizes a_o_items a_o_movedItems : Nat) (o_taped : Int32) (o_at : Int32) (o_wrong : Int32) (o_level : Int32) (o_noRings : Int32) (o_noTones : Int32) (o_noFuel : Int32) (o_pieces : Int32) (o_drags : Int32) (o_all : Int64) (o_noPieces : Int32) (o_noDrags : Int32) (o_kept : Int32) (o_sets : Nat → Int32) (o_ringFar : Nat → Int32) (o_ringTone : Nat → Int32) (o_currents : Nat → Int32) (o_warmths : Nat → Int32) (o_code : Nat → Int32) (o_cellAt : Nat → Int32) (o_courseAt : Nat → Int32) (o_paceAt : Nat → Int32) (o_turnsAt : Nat → Int32) (o_slowAt : Nat → Int32) (o_fuelAt : Nat → Int32) (o_ringAt : Nat → Int32) (o_pieceParts : Nat → Int32) (o_dragCell : Nat → Int32) (o_dragBy : Nat → Int32) (o_sums : Nat → Int64) (o_shares : Nat → Int32) : va_W := [(h_o, .inr (7, [.ref a_o_sets, .ref a_o_ringFar, .ref a_o_ringTone, .ref a_o_currents, .ref a_o_warmths, .ref a_o_depths, .ref a_o_tape, .int o_taped, .int o_at, .int o_wrong, .ref a_o_readFar, .ref a_o_readTone, .ref a_o_readSea, .ref a_o_code, .ref a_o_cellAt, .ref a_o_courseAt, .ref a_o_paceAt, .ref a_o_turnsAt, .ref a_o_slowAt, .ref a_o_fuelAt, .ref a_o_ringAt, .int o_level, .int o_noRings, .int o_noTones, .int o_noFuel, .int o_pieces, .ref a_o_pieceParts, .int o_drags, .ref a_o_dragCell, .ref a_o_dragBy, .ref a_o_sums, .long o_all, .int o_noPieces, .int o_noDrags, .ref a_o_shares, .ref a_o_keptFar, .ref a_o_image, .int o_kept, .ref a_o_lanes, .ref a_o_sizes, .ref a_o_items, .ref a_o_movedItems])), (a_o_sets, .inl (cyI, 8, .inl o_sets)), (a_o_ringFar, .inl (cyI, 7, .inl o_ringFar)), (a_o_ringTone, .inl (cyI, 7, .inl o_ringTone)), (a_o_currents, .inl (cyI, 200, .inl o_currents)), (a_o_warmths, .inl (cyI, 200, .inl o_warmths)), (a_o_code, .inl (cyI, 7, .inl o_code)), (a_o_cellAt, .inl (cyI, 7, .inl o_cellAt)), (a_o_courseAt, .inl (cyI, 7, .inl o_courseAt)), (a_o_paceAt, .inl (cyI, 7, .inl o_paceAt)), (a_o_turnsAt, .inl (cyI, 7, .inl o_turnsAt)), (a_o_slowAt, .inl (cyI, 7, .inl o_slowAt)), (a_o_fuelAt, .inl (cyI, 7, .inl o_fuelAt)), (a_o_ringAt, .inl (cyI, 7, .inl o_ringAt)), (a_o_pieceParts, .inl (cyI, 20, .inl o_pieceParts)), (a_o_dragCell, .inl (cyI, 6, .inl o_dragCell)), (a_o_dragBy, .inl (cyI, 6, .inl o_dragBy)), (a_o_sums, .inl (cyJ, 100, .inr (.inl o_sums))), (a_o_shares, .inl (cyI, 100, .inl o_shares))]
def f_X7_most_B55 (k6 : Int32 → Int32 → Int32 → Int32 → Int32 → Int32 → Int32 → Int32 → Int32 → Int64 → Int32 → Int32 → (Nat → Int32) → (Nat → Int32) → (Nat → Int32) → (Nat → Int32) → (Nat → Int32) → (Nat → Int32) → (Nat → Int32) → (Nat → Int32) → (Nat → Int32) → (Nat → Int32) → (Nat → Int32) → (Nat → Int32) → (Nat → Int32) → (Nat → Int32) → (Nat → Int32) → (Nat → Int32) → (Nat → Int64) → (Nat → Int32) → Option (Int32 × Int32 × Int32 × Int32 × Int32 × Int64 × Int32 × Int32 × (Nat → Int32) × (Nat → Int32) × (Nat → Int32) × (Nat → Int32) × (Nat → Int32) × (Nat → Int32) × (Nat → Int32) × (Nat → Int32) × (Nat → Int64) × (Nat → Int32))) (v1 : Int32) (v3 : Int32) (y0 : Int32) (o_level : Int32) (o_noRings : Int32) (o_noTones : Int32) (o_noFuel : Int32) (o_pieces : Int32) (o_drags : Int32) (o_all : Int64) (o_noPieces : Int32) (o_noDrags : Int32) (o_sets : Nat → Int32) (o_ringFar : Nat → Int32) (o_ringTone : Nat → Int32) (o_currents : Nat → Int32) (o_warmths : Nat → Int32) (o_code : Nat → Int32) (o_cellAt : Nat → Int32) (o_courseAt : Nat → Int32) (o_paceAt : Nat → Int32) (o_turnsAt : Nat → Int32) (o_slowAt : Nat → Int32) (o_fuelAt : Nat → Int32) (o_ringAt : Nat → Int32) (o_pieceParts : Nat → Int32) (o_dragCell : Nat → Int32) (o_dragBy : Nat → Int32) (o_sums : Nat → Int64) (o_shares : Nat → Int32) : Option (Int32 × Int32 × Int32 × Int32 × Int32 × Int64 × Int32 × Int32 × (Nat → Int32) × (Nat → Int32) × (Nat → Int32) × (Nat → Int32) × (Nat → Int32) × (Nat → Int32) × (Nat → Int32) × (Nat → Int32) × (Nat → Int64) × (Nat → Int32)) :=
  nm (v3 + 1) fun x_1 =>
  k6 v1 y0 x_1 o_level o_noRings o_noTones o_noFuel o_pieces o_drags o_all o_noPieces o_noDrags o_sets o_ringFar o_ringTone o_currents o_warmths o_code o_cellAt o_courseAt o_paceAt o_turnsAt o_slowAt o_fuelAt o_ringAt o_pieceParts o_dragCell o_dragBy o_sums o_shares
def f_X7_most_B42 (k6 : Int32 → Int32 → Int32 → Int32 → Int32 → Int32 → Int32 → Int32 → Int32 → Int64 → Int32 → Int32 → (Nat → Int32) → (Nat → Int32) → (Nat → Int32) → (Nat → Int32) → (Nat → Int32) → (Nat → Int32) → (Nat → Int32) → (Nat → Int32) → (Nat → Int32) → (Nat → Int32) → (Nat → Int32) → (Nat → Int32) → (Nat → Int32) → (Nat → Int32) → (Nat → Int32) → (Nat → Int32) → (Nat → Int64) → (Nat → Int32) → Option (Int32 × Int32 × Int32 × Int32 × Int32 × Int64 × Int32 × Int32 × (Nat → Int32) × (Nat → Int32) × (Nat → Int32) × (Nat → Int32) × (Nat → Int32) × (Nat → Int32) × (Nat → Int32) × (Nat → Int32) × (Nat → Int64) × (Nat → Int32))) (v2 : Int32) (v3 : Int32) (v4 : Int32) (y0 : Int32) (o_level : Int32) (o_noRings : Int32) (o_noTones : Int32) (o_noFuel : Int32) (o_pieces : Int32) (o_drags : Int32) (o_all : Int64) (o_noPieces : Int32) (o_noDrags : Int32) (o_sets : Nat → Int32) (o_ringFar : Nat → Int32) (o_ringTone : Nat → Int32) (o_currents : Nat → Int32) (o_warmths : Nat → Int32) (o_code : Nat → Int32) (o_cellAt : Nat → Int32) (o_courseAt : Nat → Int32) (o_paceAt : Nat → Int32) (o_turnsAt : Nat → Int32) (o_slowAt : Nat → Int32) (o_fuelAt : Nat → Int32) (o_ringAt : Nat → Int32) (o_pieceParts : Nat → Int32) (o_dragCell : Nat → Int32) (o_dragBy : Nat → Int32) (o_sums : Nat → Int64) (o_shares : Nat → Int32) : Option (Int32 × Int32 × Int32 × Int32 × Int32 × Int64 × Int32 × Int32 × (Nat → Int32) × (Nat → Int32) × (Nat → Int32) × (Nat → Int32) × (Nat → Int32) × (Nat → Int32) × (Nat → Int32) × (Nat → Int32) × (Nat → Int64) × (Nat → Int32)) :=
  if v4 ≤ v2 then
    f_X7_most_B55 k6 y0 v3 v2 o_level o_noRings o_noTones o_noFuel o_pieces o_drags o_all o_noPieces o_noDrags o_sets o_ringFar o_ringTone o_currents o_warmths o_code o_cellAt o_courseAt o_paceAt o_turnsAt o_slowAt o_fuelAt o_ringAt o_pieceParts o_dragCell o_dragBy o_sums o_shares
  else
    f_X7_most_B55 k6 y0 v3 v4 o_level o_noRings o_noTones o_noFuel o_pieces o_drags o_all o_noPieces o_noDrags o_sets o_ringFar o_ringTone o_currents o_warmths o_code o_cellAt o_courseAt o_paceAt o_turnsAt o_slowAt o_fuelAt o_ringAt o_pieceParts o_dragCell o_dragBy o_sums o_shares
def f_X7_most_B29 (k6 : Int32 → Int32 → Int32 → Int32 → Int32 → Int32 → Int32 → Int32 → Int32 → Int64 → Int32 → Int32 → (Nat → Int32) → (Nat → Int32) → (Nat → Int32) → (Nat → Int32) → (Nat → Int32) → (Nat → Int32) → (Nat → Int32) → (Nat → Int32) → (Nat → Int32) → (Nat → Int32) → (Nat → Int32) → (Nat → Int32) → (Nat → Int32) → (Nat → Int32) → (Nat → Int32) → (Nat → Int32) → (Nat → Int64) → (Nat → Int32) → Option (Int32 × Int32 × Int32 × Int32 × Int32 × Int64 × Int32 × Int32 × (Nat → Int32) × (Nat → Int32) × (Nat → Int32) × (Nat → Int32) × (Nat → Int32) × (Nat → Int32) × (Nat → Int32) × (Nat → Int32) × (Nat → Int64) × (Nat → Int32))) (v1 : Int32) (v2 : Int32) (v3 : Int32) (y0 : Int32) (o_level : Int32) (o_noRings : Int32) (o_noTones : Int32) (o_noFuel : Int32) (o_pieces : Int32) (o_drags : Int32) (o_all : Int64) (o_noPieces : Int32) (o_noDrags : Int32) (o_sets : Nat → Int32) (o_ringFar : Nat → Int32) (o_ringTone : Nat → Int32) (o_currents : Nat → Int32) (o_warmths : Nat → Int32) (o_code : Nat → Int32) (o_cellAt : Nat → Int32) (o_courseAt : Nat → Int32) (o_paceAt : Nat → Int32) (o_turnsAt : Nat → Int32) (o_slowAt : Nat → Int32) (o_fuelAt : Nat → Int32) (o_ringAt : Nat → Int32) (o_pieceParts : Nat → Int32) (o_dragCell : Nat → Int32) (o_dragBy : Nat → Int32) (o_sums : Nat → Int64) (o_shares : Nat → Int32) : Option (Int32 × Int32 × Int32 × Int32 × Int32 × Int64 × Int32 × Int32 × (Nat → Int32) × (Nat → Int32) × (Nat → Int32) × (Nat → Int32) × (Nat → Int32) × (Nat → Int32) × (Nat → Int32) × (Nat → Int32) × (Nat → Int64) × (Nat → Int32)) :=
  if y0 ≤ v2 then
    f_X7_most_B42 k6 v2 v3 y0 v1 o_level o_noRings o_noTones o_noFuel o_pieces o_drags o_all o_noPieces o_noDrags o_sets o_ringFar o_ringTone o_currents o_warmths o_code o_cellAt o_courseAt o_paceAt o_turnsAt o_slowAt o_fuelAt o_ringAt o_pieceParts o_dragCell o_dragBy o_sums o_shares
  else
    f_X7_most_B42 k6 v2 v3 y0 v3 o_level o_noRings o_noTones o_noFuel o_pieces o_drags o_all o_noPieces o_noDrags o_sets o_ringFar o_ringTone o_currents o_warmths o_code o_cellAt o_courseAt o_paceAt o_turnsAt o_slowAt o_fuelAt o_ringAt o_pieceParts o_dragCell o_dragBy o_sums o_shares
def f_X7_most_L6b (k6 : Int32 → Int32 → Int32 → Int32 → Int32 → Int32 → Int32 → Int32 → Int32 → Int64 → Int32 → Int32 → (Nat → Int32) → (Nat → Int32) → (Nat → Int32) → (Nat → Int32) → (Nat → Int32) → (Nat → Int32) → (Nat → Int32) → (Nat → Int32) → (Nat → Int32) → (Nat → Int32) → (Nat → Int32) → (Nat → Int32) → (Nat → Int32) → (Nat → Int32) → (Nat → Int32) → (Nat → Int32) → (Nat → Int64) → (Nat → Int32) → Option (Int32 × Int32 × Int32 × Int32 × Int32 × Int64 × Int32 × Int32 × (Nat → Int32) × (Nat → Int32) × (Nat → Int32) × (Nat → Int32) × (Nat → Int32) × (Nat → Int32) × (Nat → Int32) × (Nat → Int32) × (Nat → Int64) × (Nat → Int32))) (v1 : Int32) (v2 : Int32) (v3 : Int32) (o_level : Int32) (o_noRings : Int32) (o_noTones : Int32) (o_noFuel : Int32) (o_pieces : Int32) (o_drags : Int32) (o_all : Int64) (o_noPieces : Int32) (o_noDrags : Int32) (o_sets : Nat → Int32) (o_ringFar : Nat → Int32) (o_ringTone : Nat → Int32) (o_currents : Nat → Int32) (o_warmths : Nat → Int32) (o_code : Nat → Int32) (o_cellAt : Nat → Int32) (o_courseAt : Nat → Int32) (o_paceAt : Nat → Int32) (o_turnsAt : Nat → Int32) (o_slowAt : Nat → Int32) (o_fuelAt : Nat → Int32) (o_ringAt : Nat → Int32) (o_pieceParts : Nat → Int32) (o_dragCell : Nat → Int32) (o_dragBy : Nat → Int32) (o_sums : Nat → Int64) (o_shares : Nat → Int32) : Option (Int32 × Int32 × Int32 × Int32 × Int32 × Int64 × Int32 × Int32 × (Nat → Int32) × (Nat → Int32) × (Nat → Int32) × (Nat → Int32) × (Nat → Int32) × (Nat → Int32) × (Nat → Int32) × (Nat → Int32) × (Nat → Int64) × (Nat → Int32)) :=
  if 13 ≤ v3 then
    some (v1, o_level, o_noRings, o_noTones, o_noFuel, o_all, o_noPieces, o_noDrags, o_code, o_cellAt, o_courseAt, o_paceAt, o_turnsAt, o_slowAt, o_fuelAt, o_ringAt, o_sums, o_shares)
  else
    bd1 (f_X7_isAssumption v3 o_pieces) fun r_2 =>
    if r_2 = 0 then
      f_X7_most_B29 k6 v1 v2 v3 (-1) o_level o_noRings o_noTones o_noFuel o_pieces o_drags o_all o_noPieces o_noDrags o_sets o_ringFar o_ringTone o_currents o_warmths o_code o_cellAt o_courseAt o_paceAt o_turnsAt o_slowAt o_fuelAt o_ringAt o_pieceParts o_dragCell o_dragBy o_sums o_shares
    else
      bd18 (f_X7_moved v3 o_level o_noRings o_noTones o_noFuel o_pieces o_drags o_all o_noPieces o_noDrags o_sets o_ringFar o_ringTone o_currents o_warmths o_code o_cellAt o_courseAt o_paceAt o_turnsAt o_slowAt o_fuelAt o_ringAt o_pieceParts o_dragCell o_dragBy o_sums o_shares) fun r_3 w_4 w_5 w_6 w_7 w_8 w_9 w_10 w_11 w_12 w_13 w_14 w_15 w_16 w_17 w_18 w_19 w_20 =>
      f_X7_most_B29 k6 v1 v2 v3 r_3 w_4 w_5 w_6 w_7 o_pieces o_drags w_8 w_9 w_10 o_sets o_ringFar o_ringTone o_currents o_warmths w_11 w_12 w_13 w_14 w_15 w_16 w_17 w_18 o_pieceParts o_dragCell o_dragBy w_19 w_20
def f_X7_most_L6 : Nat → Int32 → Int32 → Int32 → Int32 → Int32 → Int32 → Int32 → Int32 → Int32 → Int64 → Int32 → Int32 → (Nat → Int32) → (Nat → Int32) → (Nat → Int32) → (Nat → Int32) → (Nat → Int32) → (Nat → Int32) → (Nat → Int32) → (Nat → Int32) → (Nat → Int32) → (Nat → Int32) → (Nat → Int32) → (Nat → Int32) → (Nat → Int32) → (Nat → Int32) → (Nat → Int32) → (Nat → Int32) → (Nat → Int64) → (Nat → Int32) → Option (Int32 × Int32 × Int32 × Int32 × Int32 × Int64 × Int32 × Int32 × (Nat → Int32) × (Nat → Int32) × (Nat → Int32) × (Nat → Int32) × (Nat → Int32) × (Nat → Int32) × (Nat → Int32) × (Nat → Int32) × (Nat → Int64) × (Nat → Int32))
  | 0 => fun _ _ _ _ _ _ _ _ _ _ _ _ _ _ _ _ _ _ _ _ _ _ _ _ _ _ _ _ _ _ => none
  | n + 1 => f_X7_most_L6b (f_X7_most_L6 n)
def f_X7_most (o_level : Int32) (o_noRings : Int32) (o_noTones : Int32) (o_noFuel : Int32) (o_pieces : Int32) (o_drags : Int32) (o_all : Int64) (o_noPieces : Int32) (o_noDrags : Int32) (o_sets : Nat → Int32) (o_ringFar : Nat → Int32) (o_ringTone : Nat → Int32) (o_currents : Nat → Int32) (o_warmths : Nat → Int32) (o_code : Nat → Int32) (o_cellAt : Nat → Int32) (o_courseAt : Nat → Int32) (o_paceAt : Nat → Int32) (o_turnsAt : Nat → Int32) (o_slowAt : Nat → Int32) (o_fuelAt : Nat → Int32) (o_ringAt : Nat → Int32) (o_pieceParts : Nat → Int32) (o_dragCell : Nat → Int32) (o_dragBy : Nat → Int32) (o_sums : Nat → Int64) (o_shares : Nat → Int32) : Option (Int32 × Int32 × Int32 × Int32 × Int32 × Int64 × Int32 × Int32 × (Nat → Int32) × (Nat → Int32) × (Nat → Int32) × (Nat → Int32) × (Nat → Int32) × (Nat → Int32) × (Nat → Int32) × (Nat → Int32) × (Nat → Int64) × (Nat → Int32)) :=
  f_X7_most_L6 FU 0 (-1) 0 o_level o_noRings o_noTones o_noFuel o_pieces o_drags o_all o_noPieces o_noDrags o_sets o_ringFar o_ringTone o_currents o_warmths o_code o_cellAt o_courseAt o_paceAt o_turnsAt o_slowAt o_fuelAt o_ringAt o_pieceParts o_dragCell o_dragBy o_sums o_shares
abbrev rm_X7_most : Room := { frames := 7, cells := 0, slots := 0, locals := 173 }
set_option maxRecDepth 100000 in
set_option maxHeartbeats 4000000 in
theorem c_X7_most (l : Launch) (dC : Nat → ClassId) (dI : Nat → Nat → Nat) (cyI cyJ cyO : ClassId) (sz : Nat) (h_o a_o_sets a_o_ringFar a_o_ringTone a_o_currents a_o_warmths a_o_depths a_o_tape a_o_readFar a_o_readTone a_o_readSea a_o_code a_o_cellAt a_o_courseAt a_o_paceAt a_o_turnsAt a_o_slowAt a_o_fuelAt a_o_ringAt a_o_pieceParts a_o_dragCell a_o_dragBy a_o_sums a_o_shares a_o_keptFar a_o_image a_o_lanes a_o_sizes a_o_items a_o_movedItems : Nat) (o_taped : Int32) (o_at : Int32) (o_wrong : Int32) (o_level : Int32) (o_noRings : Int32) (o_noTones : Int32) (o_noFuel : Int32) (o_pieces : Int32) (o_drags : Int32) (o_all : Int64) (o_noPieces : Int32) (o_noDrags : Int32) (o_kept : Int32) (o_sets : Nat → Int32) (o_ringFar : Nat → Int32) (o_ringTone : Nat → Int32) (o_currents : Nat → Int32) (o_warmths : Nat → Int32) (o_code : Nat → Int32) (o_cellAt : Nat → Int32) (o_courseAt : Nat → Int32) (o_paceAt : Nat → Int32) (o_turnsAt : Nat → Int32) (o_slowAt : Nat → Int32) (o_fuelAt : Nat → Int32) (o_ringAt : Nat → Int32) (o_pieceParts : Nat → Int32) (o_dragCell : Nat → Int32) (o_dragBy : Nat → Int32) (o_sums : Nat → Int64) (o_shares : Nat → Int32) (post : (Int32 × Int32 × Int32 × Int32 × Int32 × Int64 × Int32 × Int32 × (Nat → Int32) × (Nat → Int32) × (Nat → Int32) × (Nat → Int32) × (Nat → Int32) × (Nat → Int32) × (Nat → Int32) × (Nat → Int32) × (Nat → Int64) × (Nat → Int32)) → Prop) (hf : okP (f_X7_most o_level o_noRings o_noTones o_noFuel o_pieces o_drags o_all o_noPieces o_noDrags o_sets o_ringFar o_ringTone o_currents o_warmths o_code o_cellAt o_courseAt o_paceAt o_turnsAt o_slowAt o_fuelAt o_ringAt o_pieceParts o_dragCell o_dragBy o_sums o_shares) post) : Ci l (dC, dI) (tyL cyI cyJ cyO) yX7_most wsX7_most rm_X7_most [.ref h_o] sz (W_X7_most cyI cyJ cyO h_o a_o_sets a_o_ringFar a_o_ringTone a_o_currents a_o_warmths a_o_depths a_o_tape a_o_readFar a_o_readTone a_o_readSea a_o_code a_o_cellAt a_o_courseAt a_o_paceAt a_o_turnsAt a_o_slowAt a_o_fuelAt a_o_ringAt a_o_pieceParts a_o_dragCell a_o_dragBy a_o_sums a_o_shares a_o_keptFar a_o_image a_o_lanes a_o_sizes a_o_items a_o_movedItems o_taped o_at o_wrong o_level o_noRings o_noTones o_noFuel o_pieces o_drags o_all o_noPieces o_noDrags o_kept o_sets o_ringFar o_ringTone o_currents o_warmths o_code o_cellAt o_courseAt o_paceAt o_turnsAt o_slowAt o_fuelAt o_ringAt o_pieceParts o_dragCell o_dragBy o_sums o_shares) zN (fun r u => post (r, u)) (fun u => (W_X7_most cyI cyJ cyO h_o a_o_sets a_o_ringFar a_o_ringTone a_o_currents a_o_warmths a_o_depths a_o_tape a_o_readFar a_o_readTone a_o_readSea a_o_code a_o_cellAt a_o_courseAt a_o_paceAt a_o_turnsAt a_o_slowAt a_o_fuelAt a_o_ringAt a_o_pieceParts a_o_dragCell a_o_dragBy a_o_sums a_o_shares a_o_keptFar a_o_image a_o_lanes a_o_sizes a_o_items a_o_movedItems o_taped o_at o_wrong u.1 u.2.1 u.2.2.1 u.2.2.2.1 o_pieces o_drags u.2.2.2.2.1 u.2.2.2.2.2.1 u.2.2.2.2.2.2.1 o_kept o_sets o_ringFar o_ringTone o_currents o_warmths u.2.2.2.2.2.2.2.1 u.2.2.2.2.2.2.2.2.1 u.2.2.2.2.2.2.2.2.2.1 u.2.2.2.2.2.2.2.2.2.2.1 u.2.2.2.2.2.2.2.2.2.2.2.1 u.2.2.2.2.2.2.2.2.2.2.2.2.1 u.2.2.2.2.2.2.2.2.2.2.2.2.2.1 u.2.2.2.2.2.2.2.2.2.2.2.2.2.2.1 o_pieceParts o_dragCell o_dragBy u.2.2.2.2.2.2.2.2.2.2.2.2.2.2.2.1 u.2.2.2.2.2.2.2.2.2.2.2.2.2.2.2.2)) := by
  refine Met.ofW (cc := cX7_most) (maxL := 5) (ret := (some .int)) (by decide) rfl ?_
  intro p e s m args below meth c s₁ B hml hv
  obtain ⟨rfl, hsz, hP, hK, hD0, hZ⟩ := hv
  have hx := B.exec
  have hb := B.bytes
  have hr := B.returns
  have hts := atoms_spec (ws := wsX7_most) B.pre
  have hown : s.vm.findClass RX7 = some m.cls := findClass_of_methodNamed B.named
  have hlocks := B.notSynchronized
  subst hsz
  have hD := hD0.self (sz := s.heap.size)
  generalize hAe : va_A (W_X7_most cyI cyJ cyO h_o a_o_sets a_o_ringFar a_o_ringTone a_o_currents a_o_warmths a_o_depths a_o_tape a_o_readFar a_o_readTone a_o_readSea a_o_code a_o_cellAt a_o_courseAt a_o_paceAt a_o_turnsAt a_o_slowAt a_o_fuelAt a_o_ringAt a_o_pieceParts a_o_dragCell a_o_dragBy a_o_sums a_o_shares a_o_keptFar a_o_image a_o_lanes a_o_sizes a_o_items a_o_movedItems o_taped o_at o_wrong o_level o_noRings o_noTones o_noFuel o_pieces o_drags o_all o_noPieces o_noDrags o_kept o_sets o_ringFar o_ringTone o_currents o_warmths o_code o_cellAt o_courseAt o_paceAt o_turnsAt o_slowAt o_fuelAt o_ringAt o_pieceParts o_dragCell o_dragBy o_sums o_shares) s.heap.size = A at hD hZ ⊢
  have hA : ∀ q : Nat, s.heap.size ≤ q → A q := fun q h => by rw [← hAe]; exact Or.inr h
  clear hAe hD0
  have hS : va_S A s.heap s.heap [] := va_S.rf
  have hl := lv_entry ([.ref h_o]) (n := 5) (Nat.le_of_ble_eq_true rfl)
  rw [lg_entry_eq]
  generalize (lg_sl ([.ref h_o]) ++ List.replicate (5 - (lg_sl ([.ref h_o])).length) Slot.unset).toArray = ls at hl ⊢
  have hl : lv_has ls 5 [(0, .ref h_o)] := hl
  refine kW (fun Q hQ => ?_)
  have hw := hf
  have w6 : ∀ (n : Nat), ∀ (v1 : Int32) (v2 : Int32) (v3 : Int32) (o_level : Int32) (o_noRings : Int32) (o_noTones : Int32) (o_noFuel : Int32) (o_all : Int64) (o_noPieces : Int32) (o_noDrags : Int32) (o_code : Nat → Int32) (o_cellAt : Nat → Int32) (o_courseAt : Nat → Int32) (o_paceAt : Nat → Int32) (o_turnsAt : Nat → Int32) (o_slowAt : Nat → Int32) (o_fuelAt : Nat → Int32) (o_ringAt : Nat → Int32) (o_sums : Nat → Int64) (o_shares : Nat → Int32) (H : Heap) (locs : List Loc), va_P (dC, dI) vwCl (W_X7_most cyI cyJ cyO h_o a_o_sets a_o_ringFar a_o_ringTone a_o_currents a_o_warmths a_o_depths a_o_tape a_o_readFar a_o_readTone a_o_readSea a_o_code a_o_cellAt a_o_courseAt a_o_paceAt a_o_turnsAt a_o_slowAt a_o_fuelAt a_o_ringAt a_o_pieceParts a_o_dragCell a_o_dragBy a_o_sums a_o_shares a_o_keptFar a_o_image a_o_lanes a_o_sizes a_o_items a_o_movedItems o_taped o_at o_wrong o_level o_noRings o_noTones o_noFuel o_pieces o_drags o_all o_noPieces o_noDrags o_kept o_sets o_ringFar o_ringTone o_currents o_warmths o_code o_cellAt o_courseAt o_paceAt o_turnsAt o_slowAt o_fuelAt o_ringAt o_pieceParts o_dragCell o_dragBy o_sums o_shares) H → va_D A (W_X7_most cyI cyJ cyO h_o a_o_sets a_o_ringFar a_o_ringTone a_o_currents a_o_warmths a_o_depths a_o_tape a_o_readFar a_o_readTone a_o_readSea a_o_code a_o_cellAt a_o_courseAt a_o_paceAt a_o_turnsAt a_o_slowAt a_o_fuelAt a_o_ringAt a_o_pieceParts a_o_dragCell a_o_dragBy a_o_sums a_o_shares a_o_keptFar a_o_image a_o_lanes a_o_sizes a_o_items a_o_movedItems o_taped o_at o_wrong o_level o_noRings o_noTones o_noFuel o_pieces o_drags o_all o_noPieces o_noDrags o_kept o_sets o_ringFar o_ringTone o_currents o_warmths o_code o_cellAt o_courseAt o_paceAt o_turnsAt o_slowAt o_fuelAt o_ringAt o_pieceParts o_dragCell o_dragBy o_sums o_shares) → va_S A s.heap H locs → ∀ (ls : Array Slot), lv_has ls 5 [(0, .ref h_o), (1, .int v1), (2, .int v2), (3, .int v3)] → okP (f_X7_most_L6 n v1 v2 v3 o_level o_noRings o_noTones o_noFuel o_pieces o_drags o_all o_noPieces o_noDrags o_sets o_ringFar o_ringTone o_currents o_warmths o_code o_cellAt o_courseAt o_paceAt o_turnsAt o_slowAt o_fuelAt o_ringAt o_pieceParts o_dragCell o_dragBy o_sums o_shares) post → W p l e (headSpec wsX7_most rm_X7_most).room s m ([.ref h_o] : List Value).toArray below meth c H locs 0 0 Q (F0 m 6 ls []) := by
    intro n
    induction n with
    | zero =>
      intro v1 v2 v3 o_level o_noRings o_noTones o_noFuel o_all o_noPieces o_noDrags o_code o_cellAt o_courseAt o_paceAt o_turnsAt o_slowAt o_fuelAt o_ringAt o_sums o_shares H locs hP hD hS ls hl hw
      exact (ok0 hw).elim
    | succ n6 ih6 =>
      have w55 : ∀ (v1 : Int32) (v3 : Int32) (y0 : Int32) (o_level : Int32) (o_noRings : Int32) (o_noTones : Int32) (o_noFuel : Int32) (o_all : Int64) (o_noPieces : Int32) (o_noDrags : Int32) (o_code : Nat → Int32) (o_cellAt : Nat → Int32) (o_courseAt : Nat → Int32) (o_paceAt : Nat → Int32) (o_turnsAt : Nat → Int32) (o_slowAt : Nat → Int32) (o_fuelAt : Nat → Int32) (o_ringAt : Nat → Int32) (o_sums : Nat → Int64) (o_shares : Nat → Int32) (H : Heap) (locs : List Loc), va_P (dC, dI) vwCl (W_X7_most cyI cyJ cyO h_o a_o_sets a_o_ringFar a_o_ringTone a_o_currents a_o_warmths a_o_depths a_o_tape a_o_readFar a_o_readTone a_o_readSea a_o_code a_o_cellAt a_o_courseAt a_o_paceAt a_o_turnsAt a_o_slowAt a_o_fuelAt a_o_ringAt a_o_pieceParts a_o_dragCell a_o_dragBy a_o_sums a_o_shares a_o_keptFar a_o_image a_o_lanes a_o_sizes a_o_items a_o_movedItems o_taped o_at o_wrong o_level o_noRings o_noTones o_noFuel o_pieces o_drags o_all o_noPieces o_noDrags o_kept o_sets o_ringFar o_ringTone o_currents o_warmths o_code o_cellAt o_courseAt o_paceAt o_turnsAt o_slowAt o_fuelAt o_ringAt o_pieceParts o_dragCell o_dragBy o_sums o_shares) H → va_D A (W_X7_most cyI cyJ cyO h_o a_o_sets a_o_ringFar a_o_ringTone a_o_currents a_o_warmths a_o_depths a_o_tape a_o_readFar a_o_readTone a_o_readSea a_o_code a_o_cellAt a_o_courseAt a_o_paceAt a_o_turnsAt a_o_slowAt a_o_fuelAt a_o_ringAt a_o_pieceParts a_o_dragCell a_o_dragBy a_o_sums a_o_shares a_o_keptFar a_o_image a_o_lanes a_o_sizes a_o_items a_o_movedItems o_taped o_at o_wrong o_level o_noRings o_noTones o_noFuel o_pieces o_drags o_all o_noPieces o_noDrags o_kept o_sets o_ringFar o_ringTone o_currents o_warmths o_code o_cellAt o_courseAt o_paceAt o_turnsAt o_slowAt o_fuelAt o_ringAt o_pieceParts o_dragCell o_dragBy o_sums o_shares) → va_S A s.heap H locs → ∀ (ls : Array Slot), lv_has ls 5 [(0, .ref h_o), (1, .int v1), (3, .int v3)] → okP (f_X7_most_B55 (f_X7_most_L6 n6) v1 v3 y0 o_level o_noRings o_noTones o_noFuel o_pieces o_drags o_all o_noPieces o_noDrags o_sets o_ringFar o_ringTone o_currents o_warmths o_code o_cellAt o_courseAt o_paceAt o_turnsAt o_slowAt o_fuelAt o_ringAt o_pieceParts o_dragCell o_dragBy o_sums o_shares) post → W p l e (headSpec wsX7_most rm_X7_most).room s m ([.ref h_o] : List Value).toArray below meth c H locs 0 0 Q (F0 m 55 ls [.int y0]) := by
        intro v1 v3 y0 o_level o_noRings o_noTones o_noFuel o_all o_noPieces o_noDrags o_code o_cellAt o_courseAt o_paceAt o_turnsAt o_slowAt o_fuelAt o_ringAt o_sums o_shares H locs hP hD hS ls hl hw
        unfold f_X7_most_B55 at hw
        refine lv_istore_n (lv' := [(2, .int y0), (0, .ref h_o), (1, .int v1), (3, .int v3)]) hx hb dX7_most_55 rfl hl (by decide) rfl (fun ls hl => ?_)
        obtain ⟨x_1, ex_1⟩ : ∃ y : Int32, y = v3 + 1 := ⟨_, rfl⟩
        replace hw := okN ex_1 hw
        refine lv_iinc (v := x_1) (lv' := [(3, .int x_1), (2, .int y0), (0, .ref h_o), (1, .int v1)]) hx hb dX7_most_56 hl (k := 3) rfl (by rw [ex_1]; rfl) (by decide) rfl (fun ls hl => ?_)
        clear ex_1
        refine lv_goto (tgt := 6) hx hb dX7_most_59 (by decide) ?_
        exact ih6 v1 y0 x_1 o_level o_noRings o_noTones o_noFuel o_all o_noPieces o_noDrags o_code o_cellAt o_courseAt o_paceAt o_turnsAt o_slowAt o_fuelAt o_ringAt o_sums o_shares _ _ hP hD hS _ (lv_sub hl [2, 3, 1, 0] rfl) hw
      have w42 : ∀ (v2 : Int32) (v3 : Int32) (v4 : Int32) (y0 : Int32) (o_level : Int32) (o_noRings : Int32) (o_noTones : Int32) (o_noFuel : Int32) (o_all : Int64) (o_noPieces : Int32) (o_noDrags : Int32) (o_code : Nat → Int32) (o_cellAt : Nat → Int32) (o_courseAt : Nat → Int32) (o_paceAt : Nat → Int32) (o_turnsAt : Nat → Int32) (o_slowAt : Nat → Int32) (o_fuelAt : Nat → Int32) (o_ringAt : Nat → Int32) (o_sums : Nat → Int64) (o_shares : Nat → Int32) (H : Heap) (locs : List Loc), va_P (dC, dI) vwCl (W_X7_most cyI cyJ cyO h_o a_o_sets a_o_ringFar a_o_ringTone a_o_currents a_o_warmths a_o_depths a_o_tape a_o_readFar a_o_readTone a_o_readSea a_o_code a_o_cellAt a_o_courseAt a_o_paceAt a_o_turnsAt a_o_slowAt a_o_fuelAt a_o_ringAt a_o_pieceParts a_o_dragCell a_o_dragBy a_o_sums a_o_shares a_o_keptFar a_o_image a_o_lanes a_o_sizes a_o_items a_o_movedItems o_taped o_at o_wrong o_level o_noRings o_noTones o_noFuel o_pieces o_drags o_all o_noPieces o_noDrags o_kept o_sets o_ringFar o_ringTone o_currents o_warmths o_code o_cellAt o_courseAt o_paceAt o_turnsAt o_slowAt o_fuelAt o_ringAt o_pieceParts o_dragCell o_dragBy o_sums o_shares) H → va_D A (W_X7_most cyI cyJ cyO h_o a_o_sets a_o_ringFar a_o_ringTone a_o_currents a_o_warmths a_o_depths a_o_tape a_o_readFar a_o_readTone a_o_readSea a_o_code a_o_cellAt a_o_courseAt a_o_paceAt a_o_turnsAt a_o_slowAt a_o_fuelAt a_o_ringAt a_o_pieceParts a_o_dragCell a_o_dragBy a_o_sums a_o_shares a_o_keptFar a_o_image a_o_lanes a_o_sizes a_o_items a_o_movedItems o_taped o_at o_wrong o_level o_noRings o_noTones o_noFuel o_pieces o_drags o_all o_noPieces o_noDrags o_kept o_sets o_ringFar o_ringTone o_currents o_warmths o_code o_cellAt o_courseAt o_paceAt o_turnsAt o_slowAt o_fuelAt o_ringAt o_pieceParts o_dragCell o_dragBy o_sums o_shares) → va_S A s.heap H locs → ∀ (ls : Array Slot), lv_has ls 5 [(0, .ref h_o), (2, .int v2), (3, .int v3), (4, .int v4)] → okP (f_X7_most_B42 (f_X7_most_L6 n6) v2 v3 v4 y0 o_level o_noRings o_noTones o_noFuel o_pieces o_drags o_all o_noPieces o_noDrags o_sets o_ringFar o_ringTone o_currents o_warmths o_code o_cellAt o_courseAt o_paceAt o_turnsAt o_slowAt o_fuelAt o_ringAt o_pieceParts o_dragCell o_dragBy o_sums o_shares) post → W p l e (headSpec wsX7_most rm_X7_most).room s m ([.ref h_o] : List Value).toArray below meth c H locs 0 0 Q (F0 m 42 ls [.int y0]) := by
        intro v2 v3 v4 y0 o_level o_noRings o_noTones o_noFuel o_all o_noPieces o_noDrags o_code o_cellAt o_courseAt o_paceAt o_turnsAt o_slowAt o_fuelAt o_ringAt o_sums o_shares H locs hP hD hS ls hl hw
        unfold f_X7_most_B42 at hw
        refine lv_istore_n (lv' := [(1, .int y0), (0, .ref h_o), (2, .int v2), (3, .int v3), (4, .int v4)]) hx hb dX7_most_42 rfl hl (by decide) rfl (fun ls hl => ?_)
        refine lv_iload hx hb dX7_most_43 (lv_at hl 4 rfl) ?_
        refine lv_iload_n hx hb dX7_most_45 rfl (lv_at hl 2 rfl) ?_
        refine lv_icmp_le (tgt := 54) hx hb dX7_most_46 (by decide) (fun c_2 => ?_) (fun c_2 => ?_)
        · replace hw := okT hw c_2
          clear c_2
          refine lv_iload_n hx hb dX7_most_54 rfl (lv_at hl 2 rfl) ?_
          exact w55 y0 v3 v2 o_level o_noRings o_noTones o_noFuel o_all o_noPieces o_noDrags o_code o_cellAt o_courseAt o_paceAt o_turnsAt o_slowAt o_fuelAt o_ringAt o_sums o_shares _ _ hP hD hS _ (lv_sub hl [1, 0, 3] rfl) hw
        · replace hw := okF hw c_2
          clear c_2
          refine lv_iload hx hb dX7_most_49 (lv_at hl 4 rfl) ?_
          refine lv_goto (tgt := 55) hx hb dX7_most_51 (by decide) ?_
          exact w55 y0 v3 v4 o_level o_noRings o_noTones o_noFuel o_all o_noPieces o_noDrags o_code o_cellAt o_courseAt o_paceAt o_turnsAt o_slowAt o_fuelAt o_ringAt o_sums o_shares _ _ hP hD hS _ (lv_sub hl [1, 0, 3] rfl) hw
      have w29 : ∀ (v1 : Int32) (v2 : Int32) (v3 : Int32) (y0 : Int32) (o_level : Int32) (o_noRings : Int32) (o_noTones : Int32) (o_noFuel : Int32) (o_all : Int64) (o_noPieces : Int32) (o_noDrags : Int32) (o_code : Nat → Int32) (o_cellAt : Nat → Int32) (o_courseAt : Nat → Int32) (o_paceAt : Nat → Int32) (o_turnsAt : Nat → Int32) (o_slowAt : Nat → Int32) (o_fuelAt : Nat → Int32) (o_ringAt : Nat → Int32) (o_sums : Nat → Int64) (o_shares : Nat → Int32) (H : Heap) (locs : List Loc), va_P (dC, dI) vwCl (W_X7_most cyI cyJ cyO h_o a_o_sets a_o_ringFar a_o_ringTone a_o_currents a_o_warmths a_o_depths a_o_tape a_o_readFar a_o_readTone a_o_readSea a_o_code a_o_cellAt a_o_courseAt a_o_paceAt a_o_turnsAt a_o_slowAt a_o_fuelAt a_o_ringAt a_o_pieceParts a_o_dragCell a_o_dragBy a_o_sums a_o_shares a_o_keptFar a_o_image a_o_lanes a_o_sizes a_o_items a_o_movedItems o_taped o_at o_wrong o_level o_noRings o_noTones o_noFuel o_pieces o_drags o_all o_noPieces o_noDrags o_kept o_sets o_ringFar o_ringTone o_currents o_warmths o_code o_cellAt o_courseAt o_paceAt o_turnsAt o_slowAt o_fuelAt o_ringAt o_pieceParts o_dragCell o_dragBy o_sums o_shares) H → va_D A (W_X7_most cyI cyJ cyO h_o a_o_sets a_o_ringFar a_o_ringTone a_o_currents a_o_warmths a_o_depths a_o_tape a_o_readFar a_o_readTone a_o_readSea a_o_code a_o_cellAt a_o_courseAt a_o_paceAt a_o_turnsAt a_o_slowAt a_o_fuelAt a_o_ringAt a_o_pieceParts a_o_dragCell a_o_dragBy a_o_sums a_o_shares a_o_keptFar a_o_image a_o_lanes a_o_sizes a_o_items a_o_movedItems o_taped o_at o_wrong o_level o_noRings o_noTones o_noFuel o_pieces o_drags o_all o_noPieces o_noDrags o_kept o_sets o_ringFar o_ringTone o_currents o_warmths o_code o_cellAt o_courseAt o_paceAt o_turnsAt o_slowAt o_fuelAt o_ringAt o_pieceParts o_dragCell o_dragBy o_sums o_shares) → va_S A s.heap H locs → ∀ (ls : Array Slot), lv_has ls 5 [(0, .ref h_o), (1, .int v1), (2, .int v2), (3, .int v3)] → okP (f_X7_most_B29 (f_X7_most_L6 n6) v1 v2 v3 y0 o_level o_noRings o_noTones o_noFuel o_pieces o_drags o_all o_noPieces o_noDrags o_sets o_ringFar o_ringTone o_currents o_warmths o_code o_cellAt o_courseAt o_paceAt o_turnsAt o_slowAt o_fuelAt o_ringAt o_pieceParts o_dragCell o_dragBy o_sums o_shares) post → W p l e (headSpec wsX7_most rm_X7_most).room s m ([.ref h_o] : List Value).toArray below meth c H locs 0 0 Q (F0 m 29 ls [.int y0]) := by
        intro v1 v2 v3 y0 o_level o_noRings o_noTones o_noFuel o_all o_noPieces o_noDrags o_code o_cellAt o_courseAt o_paceAt o_turnsAt o_slowAt o_fuelAt o_ringAt o_sums o_shares H locs hP hD hS ls hl hw
        unfold f_X7_most_B29 at hw
        refine lv_istore (lv' := [(4, .int y0), (0, .ref h_o), (1, .int v1), (2, .int v2), (3, .int v3)]) hx hb dX7_most_29 hl (by decide) rfl (fun ls hl => ?_)
        refine lv_iload hx hb dX7_most_31 (lv_at hl 0 rfl) ?_
        refine lv_iload_n hx hb dX7_most_33 rfl (lv_at hl 3 rfl) ?_
        refine lv_icmp_le (tgt := 41) hx hb dX7_most_34 (by decide) (fun c_3 => ?_) (fun c_3 => ?_)
        · replace hw := okT hw c_3
          clear c_3
          refine lv_iload_n hx hb dX7_most_41 rfl (lv_at hl 2 rfl) ?_
          exact w42 v2 v3 y0 v1 o_level o_noRings o_noTones o_noFuel o_all o_noPieces o_noDrags o_code o_cellAt o_courseAt o_paceAt o_turnsAt o_slowAt o_fuelAt o_ringAt o_sums o_shares _ _ hP hD hS _ (lv_sub hl [1, 3, 4, 0] rfl) hw
        · replace hw := okF hw c_3
          clear c_3
          refine lv_iload_n hx hb dX7_most_37 rfl (lv_at hl 4 rfl) ?_
          refine lv_goto (tgt := 42) hx hb dX7_most_38 (by decide) ?_
          exact w42 v2 v3 y0 v3 o_level o_noRings o_noTones o_noFuel o_all o_noPieces o_noDrags o_code o_cellAt o_courseAt o_paceAt o_turnsAt o_slowAt o_fuelAt o_ringAt o_sums o_shares _ _ hP hD hS _ (lv_sub hl [1, 3, 4, 0] rfl) hw
      intro v1 v2 v3 o_level o_noRings o_noTones o_noFuel o_all o_noPieces o_noDrags o_code o_cellAt o_courseAt o_paceAt o_turnsAt o_slowAt o_fuelAt o_ringAt o_sums o_shares H locs hP hD hS ls hl hw
      replace hw : okP (f_X7_most_L6b (f_X7_most_L6 n6) v1 v2 v3 o_level o_noRings o_noTones o_noFuel o_pieces o_drags o_all o_noPieces o_noDrags o_sets o_ringFar o_ringTone o_currents o_warmths o_code o_cellAt o_courseAt o_paceAt o_turnsAt o_slowAt o_fuelAt o_ringAt o_pieceParts o_dragCell o_dragBy o_sums o_shares) post := hw
      unfold f_X7_most_L6b at hw
      refine lv_iload_n hx hb dX7_most_6 rfl (lv_at hl 3 rfl) ?_
      refine lv_bipush (v := 13) hx hb dX7_most_7 (by decide) ?_
      refine lv_icmp_ge (tgt := 62) hx hb dX7_most_9 (by decide) (fun c_4 => ?_) (fun c_4 => ?_)
      · replace hw := okT hw c_4
        clear c_4
        refine lv_iload_n hx hb dX7_most_62 rfl (lv_at hl 1 rfl) ?_
        rw [hQ]
        exact W.iret (v := v1) hx hb hr (fun t ht hW => ⟨⟨v1, (o_level, o_noRings, o_noTones, o_noFuel, o_all, o_noPieces, o_noDrags, o_code, o_cellAt, o_courseAt, o_paceAt, o_turnsAt, o_slowAt, o_fuelAt, o_ringAt, o_sums, o_shares), rfl, okS hw, by rw [ht]; exact hP, va_K.moved hW.alike hK, hD⟩, hS.F ht⟩) hS.2.2 dX7_most_63
      · replace hw := okF hw c_4
        clear c_4
        refine lv_aload_n hx hb dX7_most_12 rfl (lv_at hl 0 rfl) ?_
        refine lv_iload_n hx hb dX7_most_13 rfl (lv_at hl 3 rfl) ?_
        have hPc := hP.sub (ws' := (W_X7_isAssumption cyI cyJ cyO h_o a_o_sets a_o_ringFar a_o_ringTone a_o_currents a_o_warmths a_o_depths a_o_tape a_o_readFar a_o_readTone a_o_readSea a_o_code a_o_cellAt a_o_courseAt a_o_paceAt a_o_turnsAt a_o_slowAt a_o_fuelAt a_o_ringAt a_o_pieceParts a_o_dragCell a_o_dragBy a_o_sums a_o_shares a_o_keptFar a_o_image a_o_lanes a_o_sizes a_o_items a_o_movedItems o_taped o_at o_wrong o_level o_noRings o_noTones o_noFuel o_pieces o_drags o_all o_noPieces o_noDrags o_kept)) [0] rfl
        have hDc := hD.sub (ws' := (W_X7_isAssumption cyI cyJ cyO h_o a_o_sets a_o_ringFar a_o_ringTone a_o_currents a_o_warmths a_o_depths a_o_tape a_o_readFar a_o_readTone a_o_readSea a_o_code a_o_cellAt a_o_courseAt a_o_paceAt a_o_turnsAt a_o_slowAt a_o_fuelAt a_o_ringAt a_o_pieceParts a_o_dragCell a_o_dragBy a_o_sums a_o_shares a_o_keptFar a_o_image a_o_lanes a_o_sizes a_o_items a_o_movedItems o_taped o_at o_wrong o_level o_noRings o_noTones o_noFuel o_pieces o_drags o_all o_noPieces o_noDrags o_kept)) [0] (by decide +kernel) rfl
        have hFc := va_free (wc := (W_X7_isAssumption cyI cyJ cyO h_o a_o_sets a_o_ringFar a_o_ringTone a_o_currents a_o_warmths a_o_depths a_o_tape a_o_readFar a_o_readTone a_o_readSea a_o_code a_o_cellAt a_o_courseAt a_o_paceAt a_o_turnsAt a_o_slowAt a_o_fuelAt a_o_ringAt a_o_pieceParts a_o_dragCell a_o_dragBy a_o_sums a_o_shares a_o_keptFar a_o_image a_o_lanes a_o_sizes a_o_items a_o_movedItems o_taped o_at o_wrong o_level o_noRings o_noTones o_noFuel o_pieces o_drags o_all o_noPieces o_noDrags o_kept)) hD hS hA [0] rfl
        refine kc_i (wr := [(a_o_sets, .inl (cyI, 8, .inl o_sets)), (a_o_ringFar, .inl (cyI, 7, .inl o_ringFar)), (a_o_ringTone, .inl (cyI, 7, .inl o_ringTone)), (a_o_currents, .inl (cyI, 200, .inl o_currents)), (a_o_warmths, .inl (cyI, 200, .inl o_warmths)), (a_o_code, .inl (cyI, 7, .inl o_code)), (a_o_cellAt, .inl (cyI, 7, .inl o_cellAt)), (a_o_courseAt, .inl (cyI, 7, .inl o_courseAt)), (a_o_paceAt, .inl (cyI, 7, .inl o_paceAt)), (a_o_turnsAt, .inl (cyI, 7, .inl o_turnsAt)), (a_o_slowAt, .inl (cyI, 7, .inl o_slowAt)), (a_o_fuelAt, .inl (cyI, 7, .inl o_fuelAt)), (a_o_ringAt, .inl (cyI, 7, .inl o_ringAt)), (a_o_pieceParts, .inl (cyI, 20, .inl o_pieceParts)), (a_o_dragCell, .inl (cyI, 6, .inl o_dragCell)), (a_o_dragBy, .inl (cyI, 6, .inl o_dragBy)), (a_o_sums, .inl (cyJ, 100, .inr (.inl o_sums))), (a_o_shares, .inl (cyI, 100, .inl o_shares))]) (va_runV (As := [.int v3]) (rest := []) ⟨hx, hb, hml, hown, hts⟩ (c_X7_isAssumption l dC dI cyI cyJ cyO H.size h_o a_o_sets a_o_ringFar a_o_ringTone a_o_currents a_o_warmths a_o_depths a_o_tape a_o_readFar a_o_readTone a_o_readSea a_o_code a_o_cellAt a_o_courseAt a_o_paceAt a_o_turnsAt a_o_slowAt a_o_fuelAt a_o_ringAt a_o_pieceParts a_o_dragCell a_o_dragBy a_o_sums a_o_shares a_o_keptFar a_o_image a_o_lanes a_o_sizes a_o_items a_o_movedItems o_taped o_at o_wrong o_level o_noRings o_noTones o_noFuel o_pieces o_drags o_all o_noPieces o_noDrags o_kept v3 _ (okb1 hw)) (cwV 1 hts (gdV (fun w h => List.mem_cons_of_mem _ h) q_1016 q_1018 qs_40 q_8 q_1019) rfl rfl rfl (by decide +kernel) ⟨Nat.le_of_ble_eq_true rfl, Nat.le_of_ble_eq_true rfl⟩) ⟨(kpre zN_ok hK hPc hDc trivial hS hFc).1, va_recv hK hP (ci := 7) (q0 := 0) rfl rfl, (kpre zN_ok hK hPc hDc trivial hS hFc).2⟩ rfl rfl hl.1 rfl (lv_room (Nat.le_of_ble_eq_true rfl)) dX7_most_14 ⟨Nat.le_of_ble_eq_true rfl, Nat.le_of_ble_eq_true rfl⟩) hP hD hS hFc [0] [1, 2, 3, 4, 5, 6, 7, 8, 9, 10, 11, 12, 13, 14, 15, 16, 17, 18] rfl rfl (by decide +kernel) (by decide +kernel) (fun r_5 u H locs hw hP hD hS => ?_)
        try dsimp only at hw
        have hP : va_P (dC, dI) vwCl (W_X7_most cyI cyJ cyO h_o a_o_sets a_o_ringFar a_o_ringTone a_o_currents a_o_warmths a_o_depths a_o_tape a_o_readFar a_o_readTone a_o_readSea a_o_code a_o_cellAt a_o_courseAt a_o_paceAt a_o_turnsAt a_o_slowAt a_o_fuelAt a_o_ringAt a_o_pieceParts a_o_dragCell a_o_dragBy a_o_sums a_o_shares a_o_keptFar a_o_image a_o_lanes a_o_sizes a_o_items a_o_movedItems o_taped o_at o_wrong o_level o_noRings o_noTones o_noFuel o_pieces o_drags o_all o_noPieces o_noDrags o_kept o_sets o_ringFar o_ringTone o_currents o_warmths o_code o_cellAt o_courseAt o_paceAt o_turnsAt o_slowAt o_fuelAt o_ringAt o_pieceParts o_dragCell o_dragBy o_sums o_shares) H := hP.sub [18, 0, 1, 2, 3, 4, 5, 6, 7, 8, 9, 10, 11, 12, 13, 14, 15, 16, 17] rfl
        have hD : va_D A (W_X7_most cyI cyJ cyO h_o a_o_sets a_o_ringFar a_o_ringTone a_o_currents a_o_warmths a_o_depths a_o_tape a_o_readFar a_o_readTone a_o_readSea a_o_code a_o_cellAt a_o_courseAt a_o_paceAt a_o_turnsAt a_o_slowAt a_o_fuelAt a_o_ringAt a_o_pieceParts a_o_dragCell a_o_dragBy a_o_sums a_o_shares a_o_keptFar a_o_image a_o_lanes a_o_sizes a_o_items a_o_movedItems o_taped o_at o_wrong o_level o_noRings o_noTones o_noFuel o_pieces o_drags o_all o_noPieces o_noDrags o_kept o_sets o_ringFar o_ringTone o_currents o_warmths o_code o_cellAt o_courseAt o_paceAt o_turnsAt o_slowAt o_fuelAt o_ringAt o_pieceParts o_dragCell o_dragBy o_sums o_shares) := hD.sub [18, 0, 1, 2, 3, 4, 5, 6, 7, 8, 9, 10, 11, 12, 13, 14, 15, 16, 17] (by decide +kernel) rfl
        clear hPc hDc hFc
        refine lv_if_eq (tgt := 28) hx hb dX7_most_17 (by decide) (fun c_6 => ?_) (fun c_6 => ?_)
        · replace hw := okT hw c_6
          clear c_6
          refine lv_iconst (v := (-1)) hx hb dX7_most_28 (by decide) ?_
          exact w29 v1 v2 v3 (-1) o_level o_noRings o_noTones o_noFuel o_all o_noPieces o_noDrags o_code o_cellAt o_courseAt o_paceAt o_turnsAt o_slowAt o_fuelAt o_ringAt o_sums o_shares _ _ hP hD hS _ (lv_sub hl [0, 1, 2, 3] rfl) hw
        · replace hw := okF hw c_6
          clear c_6
          refine lv_aload_n hx hb dX7_most_20 rfl (lv_at hl 0 rfl) ?_
          refine lv_iload_n hx hb dX7_most_21 rfl (lv_at hl 3 rfl) ?_
          have hPc := hP.sub (ws' := (W_X7_moved cyI cyJ cyO h_o a_o_sets a_o_ringFar a_o_ringTone a_o_currents a_o_warmths a_o_depths a_o_tape a_o_readFar a_o_readTone a_o_readSea a_o_code a_o_cellAt a_o_courseAt a_o_paceAt a_o_turnsAt a_o_slowAt a_o_fuelAt a_o_ringAt a_o_pieceParts a_o_dragCell a_o_dragBy a_o_sums a_o_shares a_o_keptFar a_o_image a_o_lanes a_o_sizes a_o_items a_o_movedItems o_taped o_at o_wrong o_level o_noRings o_noTones o_noFuel o_pieces o_drags o_all o_noPieces o_noDrags o_kept o_sets o_ringFar o_ringTone o_currents o_warmths o_code o_cellAt o_courseAt o_paceAt o_turnsAt o_slowAt o_fuelAt o_ringAt o_pieceParts o_dragCell o_dragBy o_sums o_shares)) [0, 1, 2, 3, 4, 5, 6, 7, 8, 9, 10, 11, 12, 13, 14, 15, 16, 17, 18] rfl
          have hDc := hD.sub (ws' := (W_X7_moved cyI cyJ cyO h_o a_o_sets a_o_ringFar a_o_ringTone a_o_currents a_o_warmths a_o_depths a_o_tape a_o_readFar a_o_readTone a_o_readSea a_o_code a_o_cellAt a_o_courseAt a_o_paceAt a_o_turnsAt a_o_slowAt a_o_fuelAt a_o_ringAt a_o_pieceParts a_o_dragCell a_o_dragBy a_o_sums a_o_shares a_o_keptFar a_o_image a_o_lanes a_o_sizes a_o_items a_o_movedItems o_taped o_at o_wrong o_level o_noRings o_noTones o_noFuel o_pieces o_drags o_all o_noPieces o_noDrags o_kept o_sets o_ringFar o_ringTone o_currents o_warmths o_code o_cellAt o_courseAt o_paceAt o_turnsAt o_slowAt o_fuelAt o_ringAt o_pieceParts o_dragCell o_dragBy o_sums o_shares)) [0, 1, 2, 3, 4, 5, 6, 7, 8, 9, 10, 11, 12, 13, 14, 15, 16, 17, 18] (by decide +kernel) rfl
          have hFc := va_free (wc := (W_X7_moved cyI cyJ cyO h_o a_o_sets a_o_ringFar a_o_ringTone a_o_currents a_o_warmths a_o_depths a_o_tape a_o_readFar a_o_readTone a_o_readSea a_o_code a_o_cellAt a_o_courseAt a_o_paceAt a_o_turnsAt a_o_slowAt a_o_fuelAt a_o_ringAt a_o_pieceParts a_o_dragCell a_o_dragBy a_o_sums a_o_shares a_o_keptFar a_o_image a_o_lanes a_o_sizes a_o_items a_o_movedItems o_taped o_at o_wrong o_level o_noRings o_noTones o_noFuel o_pieces o_drags o_all o_noPieces o_noDrags o_kept o_sets o_ringFar o_ringTone o_currents o_warmths o_code o_cellAt o_courseAt o_paceAt o_turnsAt o_slowAt o_fuelAt o_ringAt o_pieceParts o_dragCell o_dragBy o_sums o_shares)) hD hS hA [0, 1, 2, 3, 4, 5, 6, 7, 8, 9, 10, 11, 12, 13, 14, 15, 16, 17, 18] rfl
          refine kc_i (wr := []) (va_runV (As := [.int v3]) (rest := []) ⟨hx, hb, hml, hown, hts⟩ (c_X7_moved l dC dI cyI cyJ cyO H.size h_o a_o_sets a_o_ringFar a_o_ringTone a_o_currents a_o_warmths a_o_depths a_o_tape a_o_readFar a_o_readTone a_o_readSea a_o_code a_o_cellAt a_o_courseAt a_o_paceAt a_o_turnsAt a_o_slowAt a_o_fuelAt a_o_ringAt a_o_pieceParts a_o_dragCell a_o_dragBy a_o_sums a_o_shares a_o_keptFar a_o_image a_o_lanes a_o_sizes a_o_items a_o_movedItems o_taped o_at o_wrong o_level o_noRings o_noTones o_noFuel o_pieces o_drags o_all o_noPieces o_noDrags o_kept o_sets o_ringFar o_ringTone o_currents o_warmths o_code o_cellAt o_courseAt o_paceAt o_turnsAt o_slowAt o_fuelAt o_ringAt o_pieceParts o_dragCell o_dragBy o_sums o_shares v3 _ (okb18 hw)) (cwV 1 hts (gdV (fun w h => List.mem_cons_of_mem _ h) q_1021 q_1023 qs_41 q_8 q_1024) rfl rfl rfl (by decide +kernel) ⟨Nat.le_of_ble_eq_true rfl, Nat.le_of_ble_eq_true rfl⟩) ⟨(kpre zN_ok hK hPc hDc trivial hS hFc).1, va_recv hK hP (ci := 7) (q0 := 0) rfl rfl, (kpre zN_ok hK hPc hDc trivial hS hFc).2⟩ rfl rfl hl.1 rfl (lv_room (Nat.le_of_ble_eq_true rfl)) dX7_most_22 ⟨Nat.le_of_ble_eq_true rfl, Nat.le_of_ble_eq_true rfl⟩) hP hD hS hFc [0, 1, 2, 3, 4, 5, 6, 7, 8, 9, 10, 11, 12, 13, 14, 15, 16, 17, 18] [] rfl rfl (by decide +kernel) (by decide +kernel) (fun r_7 u H locs hw hP hD hS => ?_)
          obtain ⟨w_8, w_9, w_10, w_11, w_12, w_13, w_14, w_15, w_16, w_17, w_18, w_19, w_20, w_21, w_22, w_23, w_24⟩ := u
          try dsimp only at hw
          have hP : va_P (dC, dI) vwCl (W_X7_most cyI cyJ cyO h_o a_o_sets a_o_ringFar a_o_ringTone a_o_currents a_o_warmths a_o_depths a_o_tape a_o_readFar a_o_readTone a_o_readSea a_o_code a_o_cellAt a_o_courseAt a_o_paceAt a_o_turnsAt a_o_slowAt a_o_fuelAt a_o_ringAt a_o_pieceParts a_o_dragCell a_o_dragBy a_o_sums a_o_shares a_o_keptFar a_o_image a_o_lanes a_o_sizes a_o_items a_o_movedItems o_taped o_at o_wrong w_8 w_9 w_10 w_11 o_pieces o_drags w_12 w_13 w_14 o_kept o_sets o_ringFar o_ringTone o_currents o_warmths w_15 w_16 w_17 w_18 w_19 w_20 w_21 w_22 o_pieceParts o_dragCell o_dragBy w_23 w_24) H := hP.sub [0, 1, 2, 3, 4, 5, 6, 7, 8, 9, 10, 11, 12, 13, 14, 15, 16, 17, 18] rfl
          have hD : va_D A (W_X7_most cyI cyJ cyO h_o a_o_sets a_o_ringFar a_o_ringTone a_o_currents a_o_warmths a_o_depths a_o_tape a_o_readFar a_o_readTone a_o_readSea a_o_code a_o_cellAt a_o_courseAt a_o_paceAt a_o_turnsAt a_o_slowAt a_o_fuelAt a_o_ringAt a_o_pieceParts a_o_dragCell a_o_dragBy a_o_sums a_o_shares a_o_keptFar a_o_image a_o_lanes a_o_sizes a_o_items a_o_movedItems o_taped o_at o_wrong w_8 w_9 w_10 w_11 o_pieces o_drags w_12 w_13 w_14 o_kept o_sets o_ringFar o_ringTone o_currents o_warmths w_15 w_16 w_17 w_18 w_19 w_20 w_21 w_22 o_pieceParts o_dragCell o_dragBy w_23 w_24) := hD.sub [0, 1, 2, 3, 4, 5, 6, 7, 8, 9, 10, 11, 12, 13, 14, 15, 16, 17, 18] (by decide +kernel) rfl
          clear hPc hDc hFc
          refine lv_goto (tgt := 29) hx hb dX7_most_25 (by decide) ?_
          exact w29 v1 v2 v3 r_7 w_8 w_9 w_10 w_11 w_12 w_13 w_14 w_15 w_16 w_17 w_18 w_19 w_20 w_21 w_22 w_23 w_24 _ _ hP hD hS _ (lv_sub hl [0, 1, 2, 3] rfl) hw
  unfold f_X7_most at hw
  have hP : va_P (dC, dI) vwCl (W_X7_most cyI cyJ cyO h_o a_o_sets a_o_ringFar a_o_ringTone a_o_currents a_o_warmths a_o_depths a_o_tape a_o_readFar a_o_readTone a_o_readSea a_o_code a_o_cellAt a_o_courseAt a_o_paceAt a_o_turnsAt a_o_slowAt a_o_fuelAt a_o_ringAt a_o_pieceParts a_o_dragCell a_o_dragBy a_o_sums a_o_shares a_o_keptFar a_o_image a_o_lanes a_o_sizes a_o_items a_o_movedItems o_taped o_at o_wrong o_level o_noRings o_noTones o_noFuel o_pieces o_drags o_all o_noPieces o_noDrags o_kept o_sets o_ringFar o_ringTone o_currents o_warmths o_code o_cellAt o_courseAt o_paceAt o_turnsAt o_slowAt o_fuelAt o_ringAt o_pieceParts o_dragCell o_dragBy o_sums o_shares) s.heap := hP
  obtain ⟨H, hH⟩ : ∃ H, H = s.heap := ⟨_, rfl⟩
  obtain ⟨locs, hlo⟩ : ∃ x : List Loc, x = [] := ⟨_, rfl⟩
  have hP : va_P (dC, dI) vwCl (W_X7_most cyI cyJ cyO h_o a_o_sets a_o_ringFar a_o_ringTone a_o_currents a_o_warmths a_o_depths a_o_tape a_o_readFar a_o_readTone a_o_readSea a_o_code a_o_cellAt a_o_courseAt a_o_paceAt a_o_turnsAt a_o_slowAt a_o_fuelAt a_o_ringAt a_o_pieceParts a_o_dragCell a_o_dragBy a_o_sums a_o_shares a_o_keptFar a_o_image a_o_lanes a_o_sizes a_o_items a_o_movedItems o_taped o_at o_wrong o_level o_noRings o_noTones o_noFuel o_pieces o_drags o_all o_noPieces o_noDrags o_kept o_sets o_ringFar o_ringTone o_currents o_warmths o_code o_cellAt o_courseAt o_paceAt o_turnsAt o_slowAt o_fuelAt o_ringAt o_pieceParts o_dragCell o_dragBy o_sums o_shares) H := by rw [hH]; exact hP
  have hS : va_S A s.heap H locs := by rw [hH, hlo]; exact hS
  refine kH hH hlo ?_
  clear hH hlo
  refine lv_iconst (v := 0) hx hb dX7_most_0 (by decide) ?_
  refine lv_istore_n (lv' := [(1, .int 0), (0, .ref h_o)]) hx hb dX7_most_1 rfl hl (by decide) rfl (fun ls hl => ?_)
  refine lv_iconst (v := (-1)) hx hb dX7_most_2 (by decide) ?_
  refine lv_istore_n (lv' := [(2, .int (-1)), (1, .int 0), (0, .ref h_o)]) hx hb dX7_most_3 rfl hl (by decide) rfl (fun ls hl => ?_)
  refine lv_iconst (v := 0) hx hb dX7_most_4 (by decide) ?_
  refine lv_istore_n (lv' := [(3, .int 0), (2, .int (-1)), (1, .int 0), (0, .ref h_o)]) hx hb dX7_most_5 rfl hl (by decide) rfl (fun ls hl => ?_)
  exact w6 FU 0 (-1) 0 o_level o_noRings o_noTones o_noFuel o_all o_noPieces o_noDrags o_code o_cellAt o_courseAt o_paceAt o_turnsAt o_slowAt o_fuelAt o_ringAt o_sums o_shares _ _ hP hD hS _ (lv_sub hl [3, 2, 1, 0] rfl) hw
/-! ===== X7_next ===== -/
theorem dX7_next_0 : decode cX7_next 0 = .ok (.aload_n 0, 1) := by decide +kernel
theorem dX7_next_1 : decode cX7_next 1 = .ok (.invokevirtual 234, 3) := by decide +kernel
theorem dX7_next_4 : decode cX7_next 4 = .ok (.bipush (-4), 2) := by decide +kernel
theorem dX7_next_6 : decode cX7_next 6 = .ok (.istore_n 1, 1) := by decide +kernel
theorem dX7_next_7 : decode cX7_next 7 = .ok (.iconst 0, 1) := by decide +kernel
theorem dX7_next_8 : decode cX7_next 8 = .ok (.istore_n 2, 1) := by decide +kernel
theorem dX7_next_9 : decode cX7_next 9 = .ok (.iload_n 2, 1) := by decide +kernel
theorem dX7_next_10 : decode cX7_next 10 = .ok (.bipush 100, 2) := by decide +kernel
theorem dX7_next_12 : decode cX7_next 12 = .ok (.if_icmp .ge 111, 3) := by decide +kernel
theorem dX7_next_15 : decode cX7_next 15 = .ok (.aload_n 0, 1) := by decide +kernel
theorem dX7_next_16 : decode cX7_next 16 = .ok (.getfield 73, 3) := by decide +kernel
theorem dX7_next_19 : decode cX7_next 19 = .ok (.iload_n 2, 1) := by decide +kernel
theorem dX7_next_20 : decode cX7_next 20 = .ok (.laload, 1) := by decide +kernel
theorem dX7_next_21 : decode cX7_next 21 = .ok (.lconst 0, 1) := by decide +kernel
theorem dX7_next_22 : decode cX7_next 22 = .ok (.lcmp, 1) := by decide +kernel
theorem dX7_next_23 : decode cX7_next 23 = .ok (.ifCond .le 7, 3) := by decide +kernel
theorem dX7_next_26 : decode cX7_next 26 = .ok (.iconst 1, 1) := by decide +kernel
theorem dX7_next_27 : decode cX7_next 27 = .ok (.goto 4, 3) := by decide +kernel
theorem dX7_next_30 : decode cX7_next 30 = .ok (.iconst 0, 1) := by decide +kernel
theorem dX7_next_31 : decode cX7_next 31 = .ok (.istore_n 3, 1) := by decide +kernel
theorem dX7_next_32 : decode cX7_next 32 = .ok (.iconst 0, 1) := by decide +kernel
theorem dX7_next_33 : decode cX7_next 33 = .ok (.istore 4, 2) := by decide +kernel
theorem dX7_next_35 : decode cX7_next 35 = .ok (.iload 4, 2) := by decide +kernel
theorem dX7_next_37 : decode cX7_next 37 = .ok (.aload_n 0, 1) := by decide +kernel
theorem dX7_next_38 : decode cX7_next 38 = .ok (.getfield 218, 3) := by decide +kernel
theorem dX7_next_41 : decode cX7_next 41 = .ok (.if_icmp .ge 30, 3) := by decide +kernel
theorem dX7_next_44 : decode cX7_next 44 = .ok (.iload_n 3, 1) := by decide +kernel
theorem dX7_next_45 : decode cX7_next 45 = .ok (.ifCond .eq 18, 3) := by decide +kernel
theorem dX7_next_48 : decode cX7_next 48 = .ok (.aload_n 0, 1) := by decide +kernel
theorem dX7_next_49 : decode cX7_next 49 = .ok (.getfield 67, 3) := by decide +kernel
theorem dX7_next_52 : decode cX7_next 52 = .ok (.iload 4, 2) := by decide +kernel
theorem dX7_next_54 : decode cX7_next 54 = .ok (.iaload, 1) := by decide +kernel
theorem dX7_next_55 : decode cX7_next 55 = .ok (.iload_n 2, 1) := by decide +kernel
theorem dX7_next_56 : decode cX7_next 56 = .ok (.if_icmp .eq 7, 3) := by decide +kernel
theorem dX7_next_59 : decode cX7_next 59 = .ok (.iconst 1, 1) := by decide +kernel
theorem dX7_next_60 : decode cX7_next 60 = .ok (.goto 4, 3) := by decide +kernel
theorem dX7_next_63 : decode cX7_next 63 = .ok (.iconst 0, 1) := by decide +kernel
theorem dX7_next_64 : decode cX7_next 64 = .ok (.istore_n 3, 1) := by decide +kernel
theorem dX7_next_65 : decode cX7_next 65 = .ok (.iinc 4 1, 3) := by decide +kernel
theorem dX7_next_68 : decode cX7_next 68 = .ok (.goto (-33), 3) := by decide +kernel
theorem dX7_next_71 : decode cX7_next 71 = .ok (.iload_n 3, 1) := by decide +kernel
theorem dX7_next_72 : decode cX7_next 72 = .ok (.ifCond .eq 43, 3) := by decide +kernel
theorem dX7_next_75 : decode cX7_next 75 = .ok (.iload_n 1, 1) := by decide +kernel
theorem dX7_next_76 : decode cX7_next 76 = .ok (.ifCond .lt 35, 3) := by decide +kernel
theorem dX7_next_79 : decode cX7_next 79 = .ok (.aload_n 0, 1) := by decide +kernel
theorem dX7_next_80 : decode cX7_next 80 = .ok (.getfield 73, 3) := by decide +kernel
theorem dX7_next_83 : decode cX7_next 83 = .ok (.iload_n 2, 1) := by decide +kernel
theorem dX7_next_84 : decode cX7_next 84 = .ok (.laload, 1) := by decide +kernel
theorem dX7_next_85 : decode cX7_next 85 = .ok (.aload_n 0, 1) := by decide +kernel
theorem dX7_next_86 : decode cX7_next 86 = .ok (.getfield 25, 3) := by decide +kernel
theorem dX7_next_89 : decode cX7_next 89 = .ok (.iload_n 1, 1) := by decide +kernel
theorem dX7_next_90 : decode cX7_next 90 = .ok (.iaload, 1) := by decide +kernel
theorem dX7_next_91 : decode cX7_next 91 = .ok (.i2l, 1) := by decide +kernel
theorem dX7_next_92 : decode cX7_next 92 = .ok (.lmul, 1) := by decide +kernel
theorem dX7_next_93 : decode cX7_next 93 = .ok (.aload_n 0, 1) := by decide +kernel
theorem dX7_next_94 : decode cX7_next 94 = .ok (.getfield 73, 3) := by decide +kernel
theorem dX7_next_97 : decode cX7_next 97 = .ok (.iload_n 1, 1) := by decide +kernel
theorem dX7_next_98 : decode cX7_next 98 = .ok (.laload, 1) := by decide +kernel
theorem dX7_next_99 : decode cX7_next 99 = .ok (.aload_n 0, 1) := by decide +kernel
theorem dX7_next_100 : decode cX7_next 100 = .ok (.getfield 25, 3) := by decide +kernel
theorem dX7_next_103 : decode cX7_next 103 = .ok (.iload_n 2, 1) := by decide +kernel
theorem dX7_next_104 : decode cX7_next 104 = .ok (.iaload, 1) := by decide +kernel
theorem dX7_next_105 : decode cX7_next 105 = .ok (.i2l, 1) := by decide +kernel
theorem dX7_next_106 : decode cX7_next 106 = .ok (.lmul, 1) := by decide +kernel
theorem dX7_next_107 : decode cX7_next 107 = .ok (.lcmp, 1) := by decide +kernel
theorem dX7_next_108 : decode cX7_next 108 = .ok (.ifCond .le 7, 3) := by decide +kernel
theorem dX7_next_111 : decode cX7_next 111 = .ok (.iload_n 2, 1) := by decide +kernel
theorem dX7_next_112 : decode cX7_next 112 = .ok (.goto 4, 3) := by decide +kernel
theorem dX7_next_115 : decode cX7_next 115 = .ok (.iload_n 1, 1) := by decide +kernel
theorem dX7_next_116 : decode cX7_next 116 = .ok (.istore_n 1, 1) := by decide +kernel
theorem dX7_next_117 : decode cX7_next 117 = .ok (.iinc 2 1, 3) := by decide +kernel
theorem dX7_next_120 : decode cX7_next 120 = .ok (.goto (-111), 3) := by decide +kernel
theorem dX7_next_123 : decode cX7_next 123 = .ok (.iload_n 1, 1) := by decide +kernel
theorem dX7_next_124 : decode cX7_next 124 = .ok (.ireturn, 1) := by decide +kernel
abbrev W_X7_next (cyI cyJ cyO : ClassId) (h_o a_o_sets a_o_ringFar a_o_ringTone a_o_currents a_o_warmths a_o_depths a_o_tape a_o_readFar a_o_readTone a_o_readSea a_o_code a_o_cellAt a_o_courseAt a_o_paceAt a_o_turnsAt a_o_slowAt a_o_fuelAt a_o_ringAt a_o_pieceParts a_o_dragCell a_o_dragBy a_o_sums a_o_shares a_o_keptFar a_o_image a_o_lanes a_o_sizes a_o_items a_o_movedItems : Nat) (o_taped : Int32) (o_at : Int32) (o_wrong : Int32) (o_level : Int32) (o_noRings : Int32) (o_noTones : Int32) (o_noFuel : Int32) (o_pieces : Int32) (o_drags : Int32) (o_all : Int64) (o_noPieces : Int32) (o_noDrags : Int32) (o_kept : Int32) (o_sets : Nat → Int32) (o_ringFar : Nat → Int32) (o_ringTone : Nat → Int32) (o_currents : Nat → Int32) (o_warmths : Nat → Int32) (o_depths : Nat → Int32) (o_code : Nat → Int32) (o_cellAt : Nat → Int32) (o_courseAt : Nat → Int32) (o_paceAt : Nat → Int32) (o_turnsAt : Nat → Int32) (o_slowAt : Nat → Int32) (o_fuelAt : Nat → Int32) (o_ringAt : Nat → Int32) (o_pieceParts : Nat → Int32) (o_dragCell : Nat → Int32) (o_dragBy : Nat → Int32) (o_sums : Nat → Int64) : va_W := [(h_o, .inr (7, [.ref a_o_sets, .ref a_o_ringFar, .ref a_o_ringTone, .ref a_o_currents, .ref a_o_warmths, .ref a_o_depths, .ref a_o_tape, .int o_taped, .int o_at, .int o_wrong, .ref a_o_readFar, .ref a_o_readTone, .ref a_o_readSea, .ref a_o_code, .ref a_o_cellAt, .ref a_o_courseAt, .ref a_o_paceAt, .ref a_o_turnsAt, .ref a_o_slowAt, .ref a_o_fuelAt, .ref a_o_ringAt, .int o_level, .int o_noRings, .int o_noTones, .int o_noFuel, .int o_pieces, .ref a_o_pieceParts, .int o_drags, .ref a_o_dragCell, .ref a_o_dragBy, .ref a_o_sums, .long o_all, .int o_noPieces, .int o_noDrags, .ref a_o_shares, .ref a_o_keptFar, .ref a_o_image, .int o_kept, .ref a_o_lanes, .ref a_o_sizes, .ref a_o_items, .ref a_o_movedItems])), (a_o_sets, .inl (cyI, 8, .inl o_sets)), (a_o_ringFar, .inl (cyI, 7, .inl o_ringFar)), (a_o_ringTone, .inl (cyI, 7, .inl o_ringTone)), (a_o_currents, .inl (cyI, 200, .inl o_currents)), (a_o_warmths, .inl (cyI, 200, .inl o_warmths)), (a_o_depths, .inl (cyI, 100, .inl o_depths)), (a_o_code, .inl (cyI, 7, .inl o_code)), (a_o_cellAt, .inl (cyI, 7, .inl o_cellAt)), (a_o_courseAt, .inl (cyI, 7, .inl o_courseAt)), (a_o_paceAt, .inl (cyI, 7, .inl o_paceAt)), (a_o_turnsAt, .inl (cyI, 7, .inl o_turnsAt)), (a_o_slowAt, .inl (cyI, 7, .inl o_slowAt)), (a_o_fuelAt, .inl (cyI, 7, .inl o_fuelAt)), (a_o_ringAt, .inl (cyI, 7, .inl o_ringAt)), (a_o_pieceParts, .inl (cyI, 20, .inl o_pieceParts)), (a_o_dragCell, .inl (cyI, 6, .inl o_dragCell)), (a_o_dragBy, .inl (cyI, 6, .inl o_dragBy)), (a_o_sums, .inl (cyJ, 100, .inr (.inl o_sums)))]
def f_X7_next_B116 (k9 : Int32 → Int32 → Int32 → Int32 → Int32 → Int32 → Int32 → Int32 → Int64 → Int32 → Int32 → (Nat → Int32) → (Nat → Int32) → (Nat → Int32) → (Nat → Int32) → (Nat → Int32) → (Nat → Int32) → (Nat → Int32) → (Nat → Int32) → (Nat → Int32) → (Nat → Int32) → (Nat → Int32) → (Nat → Int32) → (Nat → Int32) → (Nat → Int32) → (Nat → Int32) → (Nat → Int32) → (Nat → Int32) → (Nat → Int64) → Option (Int32 × Int32 × Int32 × Int32 × Int32 × Int64 × Int32 × Int32 × (Nat → Int32) × (Nat → Int32) × (Nat → Int32) × (Nat → Int32) × (Nat → Int32) × (Nat → Int32) × (Nat → Int32) × (Nat → Int32) × (Nat → Int64))) (v2 : Int32) (y0 : Int32) (o_level : Int32) (o_noRings : Int32) (o_noTones : Int32) (o_noFuel : Int32) (o_pieces : Int32) (o_drags : Int32) (o_all : Int64) (o_noPieces : Int32) (o_noDrags : Int32) (o_sets : Nat → Int32) (o_ringFar : Nat → Int32) (o_ringTone : Nat → Int32) (o_currents : Nat → Int32) (o_warmths : Nat → Int32) (o_depths : Nat → Int32) (o_code : Nat → Int32) (o_cellAt : Nat → Int32) (o_courseAt : Nat → Int32) (o_paceAt : Nat → Int32) (o_turnsAt : Nat → Int32) (o_slowAt : Nat → Int32) (o_fuelAt : Nat → Int32) (o_ringAt : Nat → Int32) (o_pieceParts : Nat → Int32) (o_dragCell : Nat → Int32) (o_dragBy : Nat → Int32) (o_sums : Nat → Int64) : Option (Int32 × Int32 × Int32 × Int32 × Int32 × Int64 × Int32 × Int32 × (Nat → Int32) × (Nat → Int32) × (Nat → Int32) × (Nat → Int32) × (Nat → Int32) × (Nat → Int32) × (Nat → Int32) × (Nat → Int32) × (Nat → Int64)) :=
  nm (v2 + 1) fun x_1 =>
  k9 y0 x_1 o_level o_noRings o_noTones o_noFuel o_pieces o_drags o_all o_noPieces o_noDrags o_sets o_ringFar o_ringTone o_currents o_warmths o_depths o_code o_cellAt o_courseAt o_paceAt o_turnsAt o_slowAt o_fuelAt o_ringAt o_pieceParts o_dragCell o_dragBy o_sums
def f_X7_next_B115 (k9 : Int32 → Int32 → Int32 → Int32 → Int32 → Int32 → Int32 → Int32 → Int64 → Int32 → Int32 → (Nat → Int32) → (Nat → Int32) → (Nat → Int32) → (Nat → Int32) → (Nat → Int32) → (Nat → Int32) → (Nat → Int32) → (Nat → Int32) → (Nat → Int32) → (Nat → Int32) → (Nat → Int32) → (Nat → Int32) → (Nat → Int32) → (Nat → Int32) → (Nat → Int32) → (Nat → Int32) → (Nat → Int32) → (Nat → Int64) → Option (Int32 × Int32 × Int32 × Int32 × Int32 × Int64 × Int32 × Int32 × (Nat → Int32) × (Nat → Int32) × (Nat → Int32) × (Nat → Int32) × (Nat → Int32) × (Nat → Int32) × (Nat → Int32) × (Nat → Int32) × (Nat → Int64))) (v1 : Int32) (v2 : Int32) (o_level : Int32) (o_noRings : Int32) (o_noTones : Int32) (o_noFuel : Int32) (o_pieces : Int32) (o_drags : Int32) (o_all : Int64) (o_noPieces : Int32) (o_noDrags : Int32) (o_sets : Nat → Int32) (o_ringFar : Nat → Int32) (o_ringTone : Nat → Int32) (o_currents : Nat → Int32) (o_warmths : Nat → Int32) (o_depths : Nat → Int32) (o_code : Nat → Int32) (o_cellAt : Nat → Int32) (o_courseAt : Nat → Int32) (o_paceAt : Nat → Int32) (o_turnsAt : Nat → Int32) (o_slowAt : Nat → Int32) (o_fuelAt : Nat → Int32) (o_ringAt : Nat → Int32) (o_pieceParts : Nat → Int32) (o_dragCell : Nat → Int32) (o_dragBy : Nat → Int32) (o_sums : Nat → Int64) : Option (Int32 × Int32 × Int32 × Int32 × Int32 × Int64 × Int32 × Int32 × (Nat → Int32) × (Nat → Int32) × (Nat → Int32) × (Nat → Int32) × (Nat → Int32) × (Nat → Int32) × (Nat → Int32) × (Nat → Int32) × (Nat → Int64)) :=
  f_X7_next_B116 k9 v2 v1 o_level o_noRings o_noTones o_noFuel o_pieces o_drags o_all o_noPieces o_noDrags o_sets o_ringFar o_ringTone o_currents o_warmths o_depths o_code o_cellAt o_courseAt o_paceAt o_turnsAt o_slowAt o_fuelAt o_ringAt o_pieceParts o_dragCell o_dragBy o_sums
def f_X7_next_B111 (k9 : Int32 → Int32 → Int32 → Int32 → Int32 → Int32 → Int32 → Int32 → Int64 → Int32 → Int32 → (Nat → Int32) → (Nat → Int32) → (Nat → Int32) → (Nat → Int32) → (Nat → Int32) → (Nat → Int32) → (Nat → Int32) → (Nat → Int32) → (Nat → Int32) → (Nat → Int32) → (Nat → Int32) → (Nat → Int32) → (Nat → Int32) → (Nat → Int32) → (Nat → Int32) → (Nat → Int32) → (Nat → Int32) → (Nat → Int64) → Option (Int32 × Int32 × Int32 × Int32 × Int32 × Int64 × Int32 × Int32 × (Nat → Int32) × (Nat → Int32) × (Nat → Int32) × (Nat → Int32) × (Nat → Int32) × (Nat → Int32) × (Nat → Int32) × (Nat → Int32) × (Nat → Int64))) (v2 : Int32) (o_level : Int32) (o_noRings : Int32) (o_noTones : Int32) (o_noFuel : Int32) (o_pieces : Int32) (o_drags : Int32) (o_all : Int64) (o_noPieces : Int32) (o_noDrags : Int32) (o_sets : Nat → Int32) (o_ringFar : Nat → Int32) (o_ringTone : Nat → Int32) (o_currents : Nat → Int32) (o_warmths : Nat → Int32) (o_depths : Nat → Int32) (o_code : Nat → Int32) (o_cellAt : Nat → Int32) (o_courseAt : Nat → Int32) (o_paceAt : Nat → Int32) (o_turnsAt : Nat → Int32) (o_slowAt : Nat → Int32) (o_fuelAt : Nat → Int32) (o_ringAt : Nat → Int32) (o_pieceParts : Nat → Int32) (o_dragCell : Nat → Int32) (o_dragBy : Nat → Int32) (o_sums : Nat → Int64) : Option (Int32 × Int32 × Int32 × Int32 × Int32 × Int64 × Int32 × Int32 × (Nat → Int32) × (Nat → Int32) × (Nat → Int32) × (Nat → Int32) × (Nat → Int32) × (Nat → Int32) × (Nat → Int32) × (Nat → Int32) × (Nat → Int64)) :=
  f_X7_next_B116 k9 v2 v2 o_level o_noRings o_noTones o_noFuel o_pieces o_drags o_all o_noPieces o_noDrags o_sets o_ringFar o_ringTone o_currents o_warmths o_depths o_code o_cellAt o_courseAt o_paceAt o_turnsAt o_slowAt o_fuelAt o_ringAt o_pieceParts o_dragCell o_dragBy o_sums
def f_X7_next_B64 (k9 : Int32 → Int32 → Int32 → Int32 → Int32 → Int32 → Int32 → Int32 → Int64 → Int32 → Int32 → (Nat → Int32) → (Nat → Int32) → (Nat → Int32) → (Nat → Int32) → (Nat → Int32) → (Nat → Int32) → (Nat → Int32) → (Nat → Int32) → (Nat → Int32) → (Nat → Int32) → (Nat → Int32) → (Nat → Int32) → (Nat → Int32) → (Nat → Int32) → (Nat → Int32) → (Nat → Int32) → (Nat → Int32) → (Nat → Int64) → Option (Int32 × Int32 × Int32 × Int32 × Int32 × Int64 × Int32 × Int32 × (Nat → Int32) × (Nat → Int32) × (Nat → Int32) × (Nat → Int32) × (Nat → Int32) × (Nat → Int32) × (Nat → Int32) × (Nat → Int32) × (Nat → Int64))) (k35 : Int32 → Int32 → Int32 → Int32 → Int32 → Int32 → Int32 → Int32 → Int32 → Int32 → Int64 → Int32 → Int32 → (Nat → Int32) → (Nat → Int32) → (Nat → Int32) → (Nat → Int32) → (Nat → Int32) → (Nat → Int32) → (Nat → Int32) → (Nat → Int32) → (Nat → Int32) → (Nat → Int32) → (Nat → Int32) → (Nat → Int32) → (Nat → Int32) → (Nat → Int32) → (Nat → Int32) → (Nat → Int32) → (Nat → Int32) → (Nat → Int64) → Option (Int32 × Int32 × Int32 × Int32 × Int32 × Int64 × Int32 × Int32 × (Nat → Int32) × (Nat → Int32) × (Nat → Int32) × (Nat → Int32) × (Nat → Int32) × (Nat → Int32) × (Nat → Int32) × (Nat → Int32) × (Nat → Int64))) (v1 : Int32) (v2 : Int32) (v4 : Int32) (y0 : Int32) (o_level : Int32) (o_noRings : Int32) (o_noTones : Int32) (o_noFuel : Int32) (o_pieces : Int32) (o_drags : Int32) (o_all : Int64) (o_noPieces : Int32) (o_noDrags : Int32) (o_sets : Nat → Int32) (o_ringFar : Nat → Int32) (o_ringTone : Nat → Int32) (o_currents : Nat → Int32) (o_warmths : Nat → Int32) (o_depths : Nat → Int32) (o_code : Nat → Int32) (o_cellAt : Nat → Int32) (o_courseAt : Nat → Int32) (o_paceAt : Nat → Int32) (o_turnsAt : Nat → Int32) (o_slowAt : Nat → Int32) (o_fuelAt : Nat → Int32) (o_ringAt : Nat → Int32) (o_pieceParts : Nat → Int32) (o_dragCell : Nat → Int32) (o_dragBy : Nat → Int32) (o_sums : Nat → Int64) : Option (Int32 × Int32 × Int32 × Int32 × Int32 × Int64 × Int32 × Int32 × (Nat → Int32) × (Nat → Int32) × (Nat → Int32) × (Nat → Int32) × (Nat → Int32) × (Nat → Int32) × (Nat → Int32) × (Nat → Int32) × (Nat → Int64)) :=
  nm (v4 + 1) fun x_2 =>
  k35 v1 v2 y0 x_2 o_level o_noRings o_noTones o_noFuel o_pieces o_drags o_all o_noPieces o_noDrags o_sets o_ringFar o_ringTone o_currents o_warmths o_depths o_code o_cellAt o_courseAt o_paceAt o_turnsAt o_slowAt o_fuelAt o_ringAt o_pieceParts o_dragCell o_dragBy o_sums
def f_X7_next_B63 (k9 : Int32 → Int32 → Int32 → Int32 → Int32 → Int32 → Int32 → Int32 → Int64 → Int32 → Int32 → (Nat → Int32) → (Nat → Int32) → (Nat → Int32) → (Nat → Int32) → (Nat → Int32) → (Nat → Int32) → (Nat → Int32) → (Nat → Int32) → (Nat → Int32) → (Nat → Int32) → (Nat → Int32) → (Nat → Int32) → (Nat → Int32) → (Nat → Int32) → (Nat → Int32) → (Nat → Int32) → (Nat → Int32) → (Nat → Int64) → Option (Int32 × Int32 × Int32 × Int32 × Int32 × Int64 × Int32 × Int32 × (Nat → Int32) × (Nat → Int32) × (Nat → Int32) × (Nat → Int32) × (Nat → Int32) × (Nat → Int32) × (Nat → Int32) × (Nat → Int32) × (Nat → Int64))) (k35 : Int32 → Int32 → Int32 → Int32 → Int32 → Int32 → Int32 → Int32 → Int32 → Int32 → Int64 → Int32 → Int32 → (Nat → Int32) → (Nat → Int32) → (Nat → Int32) → (Nat → Int32) → (Nat → Int32) → (Nat → Int32) → (Nat → Int32) → (Nat → Int32) → (Nat → Int32) → (Nat → Int32) → (Nat → Int32) → (Nat → Int32) → (Nat → Int32) → (Nat → Int32) → (Nat → Int32) → (Nat → Int32) → (Nat → Int32) → (Nat → Int64) → Option (Int32 × Int32 × Int32 × Int32 × Int32 × Int64 × Int32 × Int32 × (Nat → Int32) × (Nat → Int32) × (Nat → Int32) × (Nat → Int32) × (Nat → Int32) × (Nat → Int32) × (Nat → Int32) × (Nat → Int32) × (Nat → Int64))) (v1 : Int32) (v2 : Int32) (v4 : Int32) (o_level : Int32) (o_noRings : Int32) (o_noTones : Int32) (o_noFuel : Int32) (o_pieces : Int32) (o_drags : Int32) (o_all : Int64) (o_noPieces : Int32) (o_noDrags : Int32) (o_sets : Nat → Int32) (o_ringFar : Nat → Int32) (o_ringTone : Nat → Int32) (o_currents : Nat → Int32) (o_warmths : Nat → Int32) (o_depths : Nat → Int32) (o_code : Nat → Int32) (o_cellAt : Nat → Int32) (o_courseAt : Nat → Int32) (o_paceAt : Nat → Int32) (o_turnsAt : Nat → Int32) (o_slowAt : Nat → Int32) (o_fuelAt : Nat → Int32) (o_ringAt : Nat → Int32) (o_pieceParts : Nat → Int32) (o_dragCell : Nat → Int32) (o_dragBy : Nat → Int32) (o_sums : Nat → Int64) : Option (Int32 × Int32 × Int32 × Int32 × Int32 × Int64 × Int32 × Int32 × (Nat → Int32) × (Nat → Int32) × (Nat → Int32) × (Nat → Int32) × (Nat → Int32) × (Nat → Int32) × (Nat → Int32) × (Nat → Int32) × (Nat → Int64)) :=
  f_X7_next_B64 k9 k35 v1 v2 v4 0 o_level o_noRings o_noTones o_noFuel o_pieces o_drags o_all o_noPieces o_noDrags o_sets o_ringFar o_ringTone o_currents o_warmths o_depths o_code o_cellAt o_courseAt o_paceAt o_turnsAt o_slowAt o_fuelAt o_ringAt o_pieceParts o_dragCell o_dragBy o_sums
def f_X7_next_L35b (k9 : Int32 → Int32 → Int32 → Int32 → Int32 → Int32 → Int32 → Int32 → Int64 → Int32 → Int32 → (Nat → Int32) → (Nat → Int32) → (Nat → Int32) → (Nat → Int32) → (Nat → Int32) → (Nat → Int32) → (Nat → Int32) → (Nat → Int32) → (Nat → Int32) → (Nat → Int32) → (Nat → Int32) → (Nat → Int32) → (Nat → Int32) → (Nat → Int32) → (Nat → Int32) → (Nat → Int32) → (Nat → Int32) → (Nat → Int64) → Option (Int32 × Int32 × Int32 × Int32 × Int32 × Int64 × Int32 × Int32 × (Nat → Int32) × (Nat → Int32) × (Nat → Int32) × (Nat → Int32) × (Nat → Int32) × (Nat → Int32) × (Nat → Int32) × (Nat → Int32) × (Nat → Int64))) (k35 : Int32 → Int32 → Int32 → Int32 → Int32 → Int32 → Int32 → Int32 → Int32 → Int32 → Int64 → Int32 → Int32 → (Nat → Int32) → (Nat → Int32) → (Nat → Int32) → (Nat → Int32) → (Nat → Int32) → (Nat → Int32) → (Nat → Int32) → (Nat → Int32) → (Nat → Int32) → (Nat → Int32) → (Nat → Int32) → (Nat → Int32) → (Nat → Int32) → (Nat → Int32) → (Nat → Int32) → (Nat → Int32) → (Nat → Int32) → (Nat → Int64) → Option (Int32 × Int32 × Int32 × Int32 × Int32 × Int64 × Int32 × Int32 × (Nat → Int32) × (Nat → Int32) × (Nat → Int32) × (Nat → Int32) × (Nat → Int32) × (Nat → Int32) × (Nat → Int32) × (Nat → Int32) × (Nat → Int64))) (v1 : Int32) (v2 : Int32) (v3 : Int32) (v4 : Int32) (o_level : Int32) (o_noRings : Int32) (o_noTones : Int32) (o_noFuel : Int32) (o_pieces : Int32) (o_drags : Int32) (o_all : Int64) (o_noPieces : Int32) (o_noDrags : Int32) (o_sets : Nat → Int32) (o_ringFar : Nat → Int32) (o_ringTone : Nat → Int32) (o_currents : Nat → Int32) (o_warmths : Nat → Int32) (o_depths : Nat → Int32) (o_code : Nat → Int32) (o_cellAt : Nat → Int32) (o_courseAt : Nat → Int32) (o_paceAt : Nat → Int32) (o_turnsAt : Nat → Int32) (o_slowAt : Nat → Int32) (o_fuelAt : Nat → Int32) (o_ringAt : Nat → Int32) (o_pieceParts : Nat → Int32) (o_dragCell : Nat → Int32) (o_dragBy : Nat → Int32) (o_sums : Nat → Int64) : Option (Int32 × Int32 × Int32 × Int32 × Int32 × Int64 × Int32 × Int32 × (Nat → Int32) × (Nat → Int32) × (Nat → Int32) × (Nat → Int32) × (Nat → Int32) × (Nat → Int32) × (Nat → Int32) × (Nat → Int32) × (Nat → Int64)) :=
  if o_drags ≤ v4 then
    if v3 = 0 then
      f_X7_next_B115 k9 v1 v2 o_level o_noRings o_noTones o_noFuel o_pieces o_drags o_all o_noPieces o_noDrags o_sets o_ringFar o_ringTone o_currents o_warmths o_depths o_code o_cellAt o_courseAt o_paceAt o_turnsAt o_slowAt o_fuelAt o_ringAt o_pieceParts o_dragCell o_dragBy o_sums
    else
      if v1 < 0 then
        f_X7_next_B111 k9 v2 o_level o_noRings o_noTones o_noFuel o_pieces o_drags o_all o_noPieces o_noDrags o_sets o_ringFar o_ringTone o_currents o_warmths o_depths o_code o_cellAt o_courseAt o_paceAt o_turnsAt o_slowAt o_fuelAt o_ringAt o_pieceParts o_dragCell o_dragBy o_sums
      else
        chk (¬ (v2 < 0 ∨ 100 ≤ v2.toNatClampNeg)) <|
        chk (¬ (v1 < 0 ∨ 100 ≤ v1.toNatClampNeg)) <|
        chk (¬ (v1 < 0 ∨ 100 ≤ v1.toNatClampNeg)) <|
        chk (¬ (v2 < 0 ∨ 100 ≤ v2.toNatClampNeg)) <|
        if (lg_cmp ((o_sums v2.toNatClampNeg) * ((o_depths v1.toNatClampNeg).toInt64)) ((o_sums v1.toNatClampNeg) * ((o_depths v2.toNatClampNeg).toInt64))) ≤ 0 then
          f_X7_next_B115 k9 v1 v2 o_level o_noRings o_noTones o_noFuel o_pieces o_drags o_all o_noPieces o_noDrags o_sets o_ringFar o_ringTone o_currents o_warmths o_depths o_code o_cellAt o_courseAt o_paceAt o_turnsAt o_slowAt o_fuelAt o_ringAt o_pieceParts o_dragCell o_dragBy o_sums
        else
          f_X7_next_B111 k9 v2 o_level o_noRings o_noTones o_noFuel o_pieces o_drags o_all o_noPieces o_noDrags o_sets o_ringFar o_ringTone o_currents o_warmths o_depths o_code o_cellAt o_courseAt o_paceAt o_turnsAt o_slowAt o_fuelAt o_ringAt o_pieceParts o_dragCell o_dragBy o_sums
  else
    if v3 = 0 then
      f_X7_next_B63 k9 k35 v1 v2 v4 o_level o_noRings o_noTones o_noFuel o_pieces o_drags o_all o_noPieces o_noDrags o_sets o_ringFar o_ringTone o_currents o_warmths o_depths o_code o_cellAt o_courseAt o_paceAt o_turnsAt o_slowAt o_fuelAt o_ringAt o_pieceParts o_dragCell o_dragBy o_sums
    else
      chk (¬ (v4 < 0 ∨ 6 ≤ v4.toNatClampNeg)) <|
      if (o_dragCell v4.toNatClampNeg) = v2 then
        f_X7_next_B63 k9 k35 v1 v2 v4 o_level o_noRings o_noTones o_noFuel o_pieces o_drags o_all o_noPieces o_noDrags o_sets o_ringFar o_ringTone o_currents o_warmths o_depths o_code o_cellAt o_courseAt o_paceAt o_turnsAt o_slowAt o_fuelAt o_ringAt o_pieceParts o_dragCell o_dragBy o_sums
      else
        f_X7_next_B64 k9 k35 v1 v2 v4 1 o_level o_noRings o_noTones o_noFuel o_pieces o_drags o_all o_noPieces o_noDrags o_sets o_ringFar o_ringTone o_currents o_warmths o_depths o_code o_cellAt o_courseAt o_paceAt o_turnsAt o_slowAt o_fuelAt o_ringAt o_pieceParts o_dragCell o_dragBy o_sums
def f_X7_next_L35 (k9 : Int32 → Int32 → Int32 → Int32 → Int32 → Int32 → Int32 → Int32 → Int64 → Int32 → Int32 → (Nat → Int32) → (Nat → Int32) → (Nat → Int32) → (Nat → Int32) → (Nat → Int32) → (Nat → Int32) → (Nat → Int32) → (Nat → Int32) → (Nat → Int32) → (Nat → Int32) → (Nat → Int32) → (Nat → Int32) → (Nat → Int32) → (Nat → Int32) → (Nat → Int32) → (Nat → Int32) → (Nat → Int32) → (Nat → Int64) → Option (Int32 × Int32 × Int32 × Int32 × Int32 × Int64 × Int32 × Int32 × (Nat → Int32) × (Nat → Int32) × (Nat → Int32) × (Nat → Int32) × (Nat → Int32) × (Nat → Int32) × (Nat → Int32) × (Nat → Int32) × (Nat → Int64))) : Nat → Int32 → Int32 → Int32 → Int32 → Int32 → Int32 → Int32 → Int32 → Int32 → Int32 → Int64 → Int32 → Int32 → (Nat → Int32) → (Nat → Int32) → (Nat → Int32) → (Nat → Int32) → (Nat → Int32) → (Nat → Int32) → (Nat → Int32) → (Nat → Int32) → (Nat → Int32) → (Nat → Int32) → (Nat → Int32) → (Nat → Int32) → (Nat → Int32) → (Nat → Int32) → (Nat → Int32) → (Nat → Int32) → (Nat → Int32) → (Nat → Int64) → Option (Int32 × Int32 × Int32 × Int32 × Int32 × Int64 × Int32 × Int32 × (Nat → Int32) × (Nat → Int32) × (Nat → Int32) × (Nat → Int32) × (Nat → Int32) × (Nat → Int32) × (Nat → Int32) × (Nat → Int32) × (Nat → Int64))
  | 0 => fun _ _ _ _ _ _ _ _ _ _ _ _ _ _ _ _ _ _ _ _ _ _ _ _ _ _ _ _ _ _ _ => none
  | n + 1 => f_X7_next_L35b k9 (f_X7_next_L35 k9 n)
def f_X7_next_B31 (k9 : Int32 → Int32 → Int32 → Int32 → Int32 → Int32 → Int32 → Int32 → Int64 → Int32 → Int32 → (Nat → Int32) → (Nat → Int32) → (Nat → Int32) → (Nat → Int32) → (Nat → Int32) → (Nat → Int32) → (Nat → Int32) → (Nat → Int32) → (Nat → Int32) → (Nat → Int32) → (Nat → Int32) → (Nat → Int32) → (Nat → Int32) → (Nat → Int32) → (Nat → Int32) → (Nat → Int32) → (Nat → Int32) → (Nat → Int64) → Option (Int32 × Int32 × Int32 × Int32 × Int32 × Int64 × Int32 × Int32 × (Nat → Int32) × (Nat → Int32) × (Nat → Int32) × (Nat → Int32) × (Nat → Int32) × (Nat → Int32) × (Nat → Int32) × (Nat → Int32) × (Nat → Int64))) (v1 : Int32) (v2 : Int32) (y0 : Int32) (o_level : Int32) (o_noRings : Int32) (o_noTones : Int32) (o_noFuel : Int32) (o_pieces : Int32) (o_drags : Int32) (o_all : Int64) (o_noPieces : Int32) (o_noDrags : Int32) (o_sets : Nat → Int32) (o_ringFar : Nat → Int32) (o_ringTone : Nat → Int32) (o_currents : Nat → Int32) (o_warmths : Nat → Int32) (o_depths : Nat → Int32) (o_code : Nat → Int32) (o_cellAt : Nat → Int32) (o_courseAt : Nat → Int32) (o_paceAt : Nat → Int32) (o_turnsAt : Nat → Int32) (o_slowAt : Nat → Int32) (o_fuelAt : Nat → Int32) (o_ringAt : Nat → Int32) (o_pieceParts : Nat → Int32) (o_dragCell : Nat → Int32) (o_dragBy : Nat → Int32) (o_sums : Nat → Int64) : Option (Int32 × Int32 × Int32 × Int32 × Int32 × Int64 × Int32 × Int32 × (Nat → Int32) × (Nat → Int32) × (Nat → Int32) × (Nat → Int32) × (Nat → Int32) × (Nat → Int32) × (Nat → Int32) × (Nat → Int32) × (Nat → Int64)) :=
  f_X7_next_L35 k9 FU v1 v2 y0 0 o_level o_noRings o_noTones o_noFuel o_pieces o_drags o_all o_noPieces o_noDrags o_sets o_ringFar o_ringTone o_currents o_warmths o_depths o_code o_cellAt o_courseAt o_paceAt o_turnsAt o_slowAt o_fuelAt o_ringAt o_pieceParts o_dragCell o_dragBy o_sums
def f_X7_next_L9b (k9 : Int32 → Int32 → Int32 → Int32 → Int32 → Int32 → Int32 → Int32 → Int64 → Int32 → Int32 → (Nat → Int32) → (Nat → Int32) → (Nat → Int32) → (Nat → Int32) → (Nat → Int32) → (Nat → Int32) → (Nat → Int32) → (Nat → Int32) → (Nat → Int32) → (Nat → Int32) → (Nat → Int32) → (Nat → Int32) → (Nat → Int32) → (Nat → Int32) → (Nat → Int32) → (Nat → Int32) → (Nat → Int32) → (Nat → Int64) → Option (Int32 × Int32 × Int32 × Int32 × Int32 × Int64 × Int32 × Int32 × (Nat → Int32) × (Nat → Int32) × (Nat → Int32) × (Nat → Int32) × (Nat → Int32) × (Nat → Int32) × (Nat → Int32) × (Nat → Int32) × (Nat → Int64))) (v1 : Int32) (v2 : Int32) (o_level : Int32) (o_noRings : Int32) (o_noTones : Int32) (o_noFuel : Int32) (o_pieces : Int32) (o_drags : Int32) (o_all : Int64) (o_noPieces : Int32) (o_noDrags : Int32) (o_sets : Nat → Int32) (o_ringFar : Nat → Int32) (o_ringTone : Nat → Int32) (o_currents : Nat → Int32) (o_warmths : Nat → Int32) (o_depths : Nat → Int32) (o_code : Nat → Int32) (o_cellAt : Nat → Int32) (o_courseAt : Nat → Int32) (o_paceAt : Nat → Int32) (o_turnsAt : Nat → Int32) (o_slowAt : Nat → Int32) (o_fuelAt : Nat → Int32) (o_ringAt : Nat → Int32) (o_pieceParts : Nat → Int32) (o_dragCell : Nat → Int32) (o_dragBy : Nat → Int32) (o_sums : Nat → Int64) : Option (Int32 × Int32 × Int32 × Int32 × Int32 × Int64 × Int32 × Int32 × (Nat → Int32) × (Nat → Int32) × (Nat → Int32) × (Nat → Int32) × (Nat → Int32) × (Nat → Int32) × (Nat → Int32) × (Nat → Int32) × (Nat → Int64)) :=
  if 100 ≤ v2 then
    some (v1, o_level, o_noRings, o_noTones, o_noFuel, o_all, o_noPieces, o_noDrags, o_code, o_cellAt, o_courseAt, o_paceAt, o_turnsAt, o_slowAt, o_fuelAt, o_ringAt, o_sums)
  else
    chk (¬ (v2 < 0 ∨ 100 ≤ v2.toNatClampNeg)) <|
    if (lg_cmp (o_sums v2.toNatClampNeg) 0) ≤ 0 then
      f_X7_next_B31 k9 v1 v2 0 o_level o_noRings o_noTones o_noFuel o_pieces o_drags o_all o_noPieces o_noDrags o_sets o_ringFar o_ringTone o_currents o_warmths o_depths o_code o_cellAt o_courseAt o_paceAt o_turnsAt o_slowAt o_fuelAt o_ringAt o_pieceParts o_dragCell o_dragBy o_sums
    else
      f_X7_next_B31 k9 v1 v2 1 o_level o_noRings o_noTones o_noFuel o_pieces o_drags o_all o_noPieces o_noDrags o_sets o_ringFar o_ringTone o_currents o_warmths o_depths o_code o_cellAt o_courseAt o_paceAt o_turnsAt o_slowAt o_fuelAt o_ringAt o_pieceParts o_dragCell o_dragBy o_sums
def f_X7_next_L9 : Nat → Int32 → Int32 → Int32 → Int32 → Int32 → Int32 → Int32 → Int32 → Int64 → Int32 → Int32 → (Nat → Int32) → (Nat → Int32) → (Nat → Int32) → (Nat → Int32) → (Nat → Int32) → (Nat → Int32) → (Nat → Int32) → (Nat → Int32) → (Nat → Int32) → (Nat → Int32) → (Nat → Int32) → (Nat → Int32) → (Nat → Int32) → (Nat → Int32) → (Nat → Int32) → (Nat → Int32) → (Nat → Int32) → (Nat → Int64) → Option (Int32 × Int32 × Int32 × Int32 × Int32 × Int64 × Int32 × Int32 × (Nat → Int32) × (Nat → Int32) × (Nat → Int32) × (Nat → Int32) × (Nat → Int32) × (Nat → Int32) × (Nat → Int32) × (Nat → Int32) × (Nat → Int64))
  | 0 => fun _ _ _ _ _ _ _ _ _ _ _ _ _ _ _ _ _ _ _ _ _ _ _ _ _ _ _ _ _ => none
  | n + 1 => f_X7_next_L9b (f_X7_next_L9 n)
def f_X7_next (o_level : Int32) (o_noRings : Int32) (o_noTones : Int32) (o_noFuel : Int32) (o_pieces : Int32) (o_drags : Int32) (o_all : Int64) (o_noPieces : Int32) (o_noDrags : Int32) (o_sets : Nat → Int32) (o_ringFar : Nat → Int32) (o_ringTone : Nat → Int32) (o_currents : Nat → Int32) (o_warmths : Nat → Int32) (o_depths : Nat → Int32) (o_code : Nat → Int32) (o_cellAt : Nat → Int32) (o_courseAt : Nat → Int32) (o_paceAt : Nat → Int32) (o_turnsAt : Nat → Int32) (o_slowAt : Nat → Int32) (o_fuelAt : Nat → Int32) (o_ringAt : Nat → Int32) (o_pieceParts : Nat → Int32) (o_dragCell : Nat → Int32) (o_dragBy : Nat → Int32) (o_sums : Nat → Int64) : Option (Int32 × Int32 × Int32 × Int32 × Int32 × Int64 × Int32 × Int32 × (Nat → Int32) × (Nat → Int32) × (Nat → Int32) × (Nat → Int32) × (Nat → Int32) × (Nat → Int32) × (Nat → Int32) × (Nat → Int32) × (Nat → Int64)) :=
  bd16 (f_X7_endsAsTold o_level o_noRings o_noTones o_noFuel o_pieces o_drags o_all o_noPieces o_noDrags o_sets o_ringFar o_ringTone o_currents o_warmths o_code o_cellAt o_courseAt o_paceAt o_turnsAt o_slowAt o_fuelAt o_ringAt o_pieceParts o_dragCell o_dragBy o_sums) fun w_3 w_4 w_5 w_6 w_7 w_8 w_9 w_10 w_11 w_12 w_13 w_14 w_15 w_16 w_17 w_18 =>
  f_X7_next_L9 FU (-4) 0 w_3 w_4 w_5 w_6 o_pieces o_drags w_7 w_8 w_9 o_sets o_ringFar o_ringTone o_currents o_warmths o_depths w_10 w_11 w_12 w_13 w_14 w_15 w_16 w_17 o_pieceParts o_dragCell o_dragBy w_18
abbrev rm_X7_next : Room := { frames := 6, cells := 0, slots := 0, locals := 148 }
set_option maxRecDepth 100000 in
set_option maxHeartbeats 4000000 in
theorem c_X7_next (l : Launch) (dC : Nat → ClassId) (dI : Nat → Nat → Nat) (cyI cyJ cyO : ClassId) (sz : Nat) (h_o a_o_sets a_o_ringFar a_o_ringTone a_o_currents a_o_warmths a_o_depths a_o_tape a_o_readFar a_o_readTone a_o_readSea a_o_code a_o_cellAt a_o_courseAt a_o_paceAt a_o_turnsAt a_o_slowAt a_o_fuelAt a_o_ringAt a_o_pieceParts a_o_dragCell a_o_dragBy a_o_sums a_o_shares a_o_keptFar a_o_image a_o_lanes a_o_sizes a_o_items a_o_movedItems : Nat) (o_taped : Int32) (o_at : Int32) (o_wrong : Int32) (o_level : Int32) (o_noRings : Int32) (o_noTones : Int32) (o_noFuel : Int32) (o_pieces : Int32) (o_drags : Int32) (o_all : Int64) (o_noPieces : Int32) (o_noDrags : Int32) (o_kept : Int32) (o_sets : Nat → Int32) (o_ringFar : Nat → Int32) (o_ringTone : Nat → Int32) (o_currents : Nat → Int32) (o_warmths : Nat → Int32) (o_depths : Nat → Int32) (o_code : Nat → Int32) (o_cellAt : Nat → Int32) (o_courseAt : Nat → Int32) (o_paceAt : Nat → Int32) (o_turnsAt : Nat → Int32) (o_slowAt : Nat → Int32) (o_fuelAt : Nat → Int32) (o_ringAt : Nat → Int32) (o_pieceParts : Nat → Int32) (o_dragCell : Nat → Int32) (o_dragBy : Nat → Int32) (o_sums : Nat → Int64) (post : (Int32 × Int32 × Int32 × Int32 × Int32 × Int64 × Int32 × Int32 × (Nat → Int32) × (Nat → Int32) × (Nat → Int32) × (Nat → Int32) × (Nat → Int32) × (Nat → Int32) × (Nat → Int32) × (Nat → Int32) × (Nat → Int64)) → Prop) (hf : okP (f_X7_next o_level o_noRings o_noTones o_noFuel o_pieces o_drags o_all o_noPieces o_noDrags o_sets o_ringFar o_ringTone o_currents o_warmths o_depths o_code o_cellAt o_courseAt o_paceAt o_turnsAt o_slowAt o_fuelAt o_ringAt o_pieceParts o_dragCell o_dragBy o_sums) post) : Ci l (dC, dI) (tyL cyI cyJ cyO) yX7_next wsX7_next rm_X7_next [.ref h_o] sz (W_X7_next cyI cyJ cyO h_o a_o_sets a_o_ringFar a_o_ringTone a_o_currents a_o_warmths a_o_depths a_o_tape a_o_readFar a_o_readTone a_o_readSea a_o_code a_o_cellAt a_o_courseAt a_o_paceAt a_o_turnsAt a_o_slowAt a_o_fuelAt a_o_ringAt a_o_pieceParts a_o_dragCell a_o_dragBy a_o_sums a_o_shares a_o_keptFar a_o_image a_o_lanes a_o_sizes a_o_items a_o_movedItems o_taped o_at o_wrong o_level o_noRings o_noTones o_noFuel o_pieces o_drags o_all o_noPieces o_noDrags o_kept o_sets o_ringFar o_ringTone o_currents o_warmths o_depths o_code o_cellAt o_courseAt o_paceAt o_turnsAt o_slowAt o_fuelAt o_ringAt o_pieceParts o_dragCell o_dragBy o_sums) zN (fun r u => post (r, u)) (fun u => (W_X7_next cyI cyJ cyO h_o a_o_sets a_o_ringFar a_o_ringTone a_o_currents a_o_warmths a_o_depths a_o_tape a_o_readFar a_o_readTone a_o_readSea a_o_code a_o_cellAt a_o_courseAt a_o_paceAt a_o_turnsAt a_o_slowAt a_o_fuelAt a_o_ringAt a_o_pieceParts a_o_dragCell a_o_dragBy a_o_sums a_o_shares a_o_keptFar a_o_image a_o_lanes a_o_sizes a_o_items a_o_movedItems o_taped o_at o_wrong u.1 u.2.1 u.2.2.1 u.2.2.2.1 o_pieces o_drags u.2.2.2.2.1 u.2.2.2.2.2.1 u.2.2.2.2.2.2.1 o_kept o_sets o_ringFar o_ringTone o_currents o_warmths o_depths u.2.2.2.2.2.2.2.1 u.2.2.2.2.2.2.2.2.1 u.2.2.2.2.2.2.2.2.2.1 u.2.2.2.2.2.2.2.2.2.2.1 u.2.2.2.2.2.2.2.2.2.2.2.1 u.2.2.2.2.2.2.2.2.2.2.2.2.1 u.2.2.2.2.2.2.2.2.2.2.2.2.2.1 u.2.2.2.2.2.2.2.2.2.2.2.2.2.2.1 o_pieceParts o_dragCell o_dragBy u.2.2.2.2.2.2.2.2.2.2.2.2.2.2.2)) := by
  refine Met.ofW (cc := cX7_next) (maxL := 5) (ret := (some .int)) (by decide) rfl ?_
  intro p e s m args below meth c s₁ B hml hv
  obtain ⟨rfl, hsz, hP, hK, hD0, hZ⟩ := hv
  have hx := B.exec
  have hb := B.bytes
  have hr := B.returns
  have hts := atoms_spec (ws := wsX7_next) B.pre
  have hown : s.vm.findClass RX7 = some m.cls := findClass_of_methodNamed B.named
  have hlocks := B.notSynchronized
  subst hsz
  have hD := hD0.self (sz := s.heap.size)
  generalize hAe : va_A (W_X7_next cyI cyJ cyO h_o a_o_sets a_o_ringFar a_o_ringTone a_o_currents a_o_warmths a_o_depths a_o_tape a_o_readFar a_o_readTone a_o_readSea a_o_code a_o_cellAt a_o_courseAt a_o_paceAt a_o_turnsAt a_o_slowAt a_o_fuelAt a_o_ringAt a_o_pieceParts a_o_dragCell a_o_dragBy a_o_sums a_o_shares a_o_keptFar a_o_image a_o_lanes a_o_sizes a_o_items a_o_movedItems o_taped o_at o_wrong o_level o_noRings o_noTones o_noFuel o_pieces o_drags o_all o_noPieces o_noDrags o_kept o_sets o_ringFar o_ringTone o_currents o_warmths o_depths o_code o_cellAt o_courseAt o_paceAt o_turnsAt o_slowAt o_fuelAt o_ringAt o_pieceParts o_dragCell o_dragBy o_sums) s.heap.size = A at hD hZ ⊢
  have hA : ∀ q : Nat, s.heap.size ≤ q → A q := fun q h => by rw [← hAe]; exact Or.inr h
  clear hAe hD0
  have hS : va_S A s.heap s.heap [] := va_S.rf
  have hl := lv_entry ([.ref h_o]) (n := 5) (Nat.le_of_ble_eq_true rfl)
  rw [lg_entry_eq]
  generalize (lg_sl ([.ref h_o]) ++ List.replicate (5 - (lg_sl ([.ref h_o])).length) Slot.unset).toArray = ls at hl ⊢
  have hl : lv_has ls 5 [(0, .ref h_o)] := hl
  refine kW (fun Q hQ => ?_)
  have hq0 := hts _ (List.mem_cons_of_mem _ q_733)
  have hi7 : ∀ w ∈ u_ws RX7 TX7 42, w ∈ wsX7_next := fun w h => List.mem_cons_of_mem _ (inX7 w h)
  have hq2 := hts _ (List.mem_cons_of_mem _ q_736)
  have hq3 := hts _ (List.mem_cons_of_mem _ q_711)
  have hq4 := hts _ (List.mem_cons_of_mem _ q_734)
  have hw := hf
  have w9 : ∀ (n : Nat), ∀ (v1 : Int32) (v2 : Int32) (o_level : Int32) (o_noRings : Int32) (o_noTones : Int32) (o_noFuel : Int32) (o_all : Int64) (o_noPieces : Int32) (o_noDrags : Int32) (o_code : Nat → Int32) (o_cellAt : Nat → Int32) (o_courseAt : Nat → Int32) (o_paceAt : Nat → Int32) (o_turnsAt : Nat → Int32) (o_slowAt : Nat → Int32) (o_fuelAt : Nat → Int32) (o_ringAt : Nat → Int32) (o_sums : Nat → Int64) (H : Heap) (locs : List Loc), va_P (dC, dI) vwCl (W_X7_next cyI cyJ cyO h_o a_o_sets a_o_ringFar a_o_ringTone a_o_currents a_o_warmths a_o_depths a_o_tape a_o_readFar a_o_readTone a_o_readSea a_o_code a_o_cellAt a_o_courseAt a_o_paceAt a_o_turnsAt a_o_slowAt a_o_fuelAt a_o_ringAt a_o_pieceParts a_o_dragCell a_o_dragBy a_o_sums a_o_shares a_o_keptFar a_o_image a_o_lanes a_o_sizes a_o_items a_o_movedItems o_taped o_at o_wrong o_level o_noRings o_noTones o_noFuel o_pieces o_drags o_all o_noPieces o_noDrags o_kept o_sets o_ringFar o_ringTone o_currents o_warmths o_depths o_code o_cellAt o_courseAt o_paceAt o_turnsAt o_slowAt o_fuelAt o_ringAt o_pieceParts o_dragCell o_dragBy o_sums) H → va_D A (W_X7_next cyI cyJ cyO h_o a_o_sets a_o_ringFar a_o_ringTone a_o_currents a_o_warmths a_o_depths a_o_tape a_o_readFar a_o_readTone a_o_readSea a_o_code a_o_cellAt a_o_courseAt a_o_paceAt a_o_turnsAt a_o_slowAt a_o_fuelAt a_o_ringAt a_o_pieceParts a_o_dragCell a_o_dragBy a_o_sums a_o_shares a_o_keptFar a_o_image a_o_lanes a_o_sizes a_o_items a_o_movedItems o_taped o_at o_wrong o_level o_noRings o_noTones o_noFuel o_pieces o_drags o_all o_noPieces o_noDrags o_kept o_sets o_ringFar o_ringTone o_currents o_warmths o_depths o_code o_cellAt o_courseAt o_paceAt o_turnsAt o_slowAt o_fuelAt o_ringAt o_pieceParts o_dragCell o_dragBy o_sums) → va_S A s.heap H locs → ∀ (ls : Array Slot), lv_has ls 5 [(0, .ref h_o), (1, .int v1), (2, .int v2)] → okP (f_X7_next_L9 n v1 v2 o_level o_noRings o_noTones o_noFuel o_pieces o_drags o_all o_noPieces o_noDrags o_sets o_ringFar o_ringTone o_currents o_warmths o_depths o_code o_cellAt o_courseAt o_paceAt o_turnsAt o_slowAt o_fuelAt o_ringAt o_pieceParts o_dragCell o_dragBy o_sums) post → W p l e (headSpec wsX7_next rm_X7_next).room s m ([.ref h_o] : List Value).toArray below meth c H locs 0 0 Q (F0 m 9 ls []) := by
    intro n
    induction n with
    | zero =>
      intro v1 v2 o_level o_noRings o_noTones o_noFuel o_all o_noPieces o_noDrags o_code o_cellAt o_courseAt o_paceAt o_turnsAt o_slowAt o_fuelAt o_ringAt o_sums H locs hP hD hS ls hl hw
      exact (ok0 hw).elim
    | succ n9 ih9 =>
      have w116 : ∀ (v2 : Int32) (y0 : Int32) (o_level : Int32) (o_noRings : Int32) (o_noTones : Int32) (o_noFuel : Int32) (o_all : Int64) (o_noPieces : Int32) (o_noDrags : Int32) (o_code : Nat → Int32) (o_cellAt : Nat → Int32) (o_courseAt : Nat → Int32) (o_paceAt : Nat → Int32) (o_turnsAt : Nat → Int32) (o_slowAt : Nat → Int32) (o_fuelAt : Nat → Int32) (o_ringAt : Nat → Int32) (o_sums : Nat → Int64) (H : Heap) (locs : List Loc), va_P (dC, dI) vwCl (W_X7_next cyI cyJ cyO h_o a_o_sets a_o_ringFar a_o_ringTone a_o_currents a_o_warmths a_o_depths a_o_tape a_o_readFar a_o_readTone a_o_readSea a_o_code a_o_cellAt a_o_courseAt a_o_paceAt a_o_turnsAt a_o_slowAt a_o_fuelAt a_o_ringAt a_o_pieceParts a_o_dragCell a_o_dragBy a_o_sums a_o_shares a_o_keptFar a_o_image a_o_lanes a_o_sizes a_o_items a_o_movedItems o_taped o_at o_wrong o_level o_noRings o_noTones o_noFuel o_pieces o_drags o_all o_noPieces o_noDrags o_kept o_sets o_ringFar o_ringTone o_currents o_warmths o_depths o_code o_cellAt o_courseAt o_paceAt o_turnsAt o_slowAt o_fuelAt o_ringAt o_pieceParts o_dragCell o_dragBy o_sums) H → va_D A (W_X7_next cyI cyJ cyO h_o a_o_sets a_o_ringFar a_o_ringTone a_o_currents a_o_warmths a_o_depths a_o_tape a_o_readFar a_o_readTone a_o_readSea a_o_code a_o_cellAt a_o_courseAt a_o_paceAt a_o_turnsAt a_o_slowAt a_o_fuelAt a_o_ringAt a_o_pieceParts a_o_dragCell a_o_dragBy a_o_sums a_o_shares a_o_keptFar a_o_image a_o_lanes a_o_sizes a_o_items a_o_movedItems o_taped o_at o_wrong o_level o_noRings o_noTones o_noFuel o_pieces o_drags o_all o_noPieces o_noDrags o_kept o_sets o_ringFar o_ringTone o_currents o_warmths o_depths o_code o_cellAt o_courseAt o_paceAt o_turnsAt o_slowAt o_fuelAt o_ringAt o_pieceParts o_dragCell o_dragBy o_sums) → va_S A s.heap H locs → ∀ (ls : Array Slot), lv_has ls 5 [(0, .ref h_o), (2, .int v2)] → okP (f_X7_next_B116 (f_X7_next_L9 n9) v2 y0 o_level o_noRings o_noTones o_noFuel o_pieces o_drags o_all o_noPieces o_noDrags o_sets o_ringFar o_ringTone o_currents o_warmths o_depths o_code o_cellAt o_courseAt o_paceAt o_turnsAt o_slowAt o_fuelAt o_ringAt o_pieceParts o_dragCell o_dragBy o_sums) post → W p l e (headSpec wsX7_next rm_X7_next).room s m ([.ref h_o] : List Value).toArray below meth c H locs 0 0 Q (F0 m 116 ls [.int y0]) := by
        intro v2 y0 o_level o_noRings o_noTones o_noFuel o_all o_noPieces o_noDrags o_code o_cellAt o_courseAt o_paceAt o_turnsAt o_slowAt o_fuelAt o_ringAt o_sums H locs hP hD hS ls hl hw
        unfold f_X7_next_B116 at hw
        refine lv_istore_n (lv' := [(1, .int y0), (0, .ref h_o), (2, .int v2)]) hx hb dX7_next_116 rfl hl (by decide) rfl (fun ls hl => ?_)
        obtain ⟨x_1, ex_1⟩ : ∃ y : Int32, y = v2 + 1 := ⟨_, rfl⟩
        replace hw := okN ex_1 hw
        refine lv_iinc (v := x_1) (lv' := [(2, .int x_1), (1, .int y0), (0, .ref h_o)]) hx hb dX7_next_117 hl (k := 2) rfl (by rw [ex_1]; rfl) (by decide) rfl (fun ls hl => ?_)
        clear ex_1
        refine lv_goto (tgt := 9) hx hb dX7_next_120 (by decide) ?_
        exact ih9 y0 x_1 o_level o_noRings o_noTones o_noFuel o_all o_noPieces o_noDrags o_code o_cellAt o_courseAt o_paceAt o_turnsAt o_slowAt o_fuelAt o_ringAt o_sums _ _ hP hD hS _ (lv_sub hl [2, 1, 0] rfl) hw
      have w115 : ∀ (v1 : Int32) (v2 : Int32) (o_level : Int32) (o_noRings : Int32) (o_noTones : Int32) (o_noFuel : Int32) (o_all : Int64) (o_noPieces : Int32) (o_noDrags : Int32) (o_code : Nat → Int32) (o_cellAt : Nat → Int32) (o_courseAt : Nat → Int32) (o_paceAt : Nat → Int32) (o_turnsAt : Nat → Int32) (o_slowAt : Nat → Int32) (o_fuelAt : Nat → Int32) (o_ringAt : Nat → Int32) (o_sums : Nat → Int64) (H : Heap) (locs : List Loc), va_P (dC, dI) vwCl (W_X7_next cyI cyJ cyO h_o a_o_sets a_o_ringFar a_o_ringTone a_o_currents a_o_warmths a_o_depths a_o_tape a_o_readFar a_o_readTone a_o_readSea a_o_code a_o_cellAt a_o_courseAt a_o_paceAt a_o_turnsAt a_o_slowAt a_o_fuelAt a_o_ringAt a_o_pieceParts a_o_dragCell a_o_dragBy a_o_sums a_o_shares a_o_keptFar a_o_image a_o_lanes a_o_sizes a_o_items a_o_movedItems o_taped o_at o_wrong o_level o_noRings o_noTones o_noFuel o_pieces o_drags o_all o_noPieces o_noDrags o_kept o_sets o_ringFar o_ringTone o_currents o_warmths o_depths o_code o_cellAt o_courseAt o_paceAt o_turnsAt o_slowAt o_fuelAt o_ringAt o_pieceParts o_dragCell o_dragBy o_sums) H → va_D A (W_X7_next cyI cyJ cyO h_o a_o_sets a_o_ringFar a_o_ringTone a_o_currents a_o_warmths a_o_depths a_o_tape a_o_readFar a_o_readTone a_o_readSea a_o_code a_o_cellAt a_o_courseAt a_o_paceAt a_o_turnsAt a_o_slowAt a_o_fuelAt a_o_ringAt a_o_pieceParts a_o_dragCell a_o_dragBy a_o_sums a_o_shares a_o_keptFar a_o_image a_o_lanes a_o_sizes a_o_items a_o_movedItems o_taped o_at o_wrong o_level o_noRings o_noTones o_noFuel o_pieces o_drags o_all o_noPieces o_noDrags o_kept o_sets o_ringFar o_ringTone o_currents o_warmths o_depths o_code o_cellAt o_courseAt o_paceAt o_turnsAt o_slowAt o_fuelAt o_ringAt o_pieceParts o_dragCell o_dragBy o_sums) → va_S A s.heap H locs → ∀ (ls : Array Slot), lv_has ls 5 [(0, .ref h_o), (1, .int v1), (2, .int v2)] → okP (f_X7_next_B115 (f_X7_next_L9 n9) v1 v2 o_level o_noRings o_noTones o_noFuel o_pieces o_drags o_all o_noPieces o_noDrags o_sets o_ringFar o_ringTone o_currents o_warmths o_depths o_code o_cellAt o_courseAt o_paceAt o_turnsAt o_slowAt o_fuelAt o_ringAt o_pieceParts o_dragCell o_dragBy o_sums) post → W p l e (headSpec wsX7_next rm_X7_next).room s m ([.ref h_o] : List Value).toArray below meth c H locs 0 0 Q (F0 m 115 ls []) := by
        intro v1 v2 o_level o_noRings o_noTones o_noFuel o_all o_noPieces o_noDrags o_code o_cellAt o_courseAt o_paceAt o_turnsAt o_slowAt o_fuelAt o_ringAt o_sums H locs hP hD hS ls hl hw
        unfold f_X7_next_B115 at hw
        refine lv_iload_n hx hb dX7_next_115 rfl (lv_at hl 1 rfl) ?_
        exact w116 v2 v1 o_level o_noRings o_noTones o_noFuel o_all o_noPieces o_noDrags o_code o_cellAt o_courseAt o_paceAt o_turnsAt o_slowAt o_fuelAt o_ringAt o_sums _ _ hP hD hS _ (lv_sub hl [0, 2] rfl) hw
      have w111 : ∀ (v2 : Int32) (o_level : Int32) (o_noRings : Int32) (o_noTones : Int32) (o_noFuel : Int32) (o_all : Int64) (o_noPieces : Int32) (o_noDrags : Int32) (o_code : Nat → Int32) (o_cellAt : Nat → Int32) (o_courseAt : Nat → Int32) (o_paceAt : Nat → Int32) (o_turnsAt : Nat → Int32) (o_slowAt : Nat → Int32) (o_fuelAt : Nat → Int32) (o_ringAt : Nat → Int32) (o_sums : Nat → Int64) (H : Heap) (locs : List Loc), va_P (dC, dI) vwCl (W_X7_next cyI cyJ cyO h_o a_o_sets a_o_ringFar a_o_ringTone a_o_currents a_o_warmths a_o_depths a_o_tape a_o_readFar a_o_readTone a_o_readSea a_o_code a_o_cellAt a_o_courseAt a_o_paceAt a_o_turnsAt a_o_slowAt a_o_fuelAt a_o_ringAt a_o_pieceParts a_o_dragCell a_o_dragBy a_o_sums a_o_shares a_o_keptFar a_o_image a_o_lanes a_o_sizes a_o_items a_o_movedItems o_taped o_at o_wrong o_level o_noRings o_noTones o_noFuel o_pieces o_drags o_all o_noPieces o_noDrags o_kept o_sets o_ringFar o_ringTone o_currents o_warmths o_depths o_code o_cellAt o_courseAt o_paceAt o_turnsAt o_slowAt o_fuelAt o_ringAt o_pieceParts o_dragCell o_dragBy o_sums) H → va_D A (W_X7_next cyI cyJ cyO h_o a_o_sets a_o_ringFar a_o_ringTone a_o_currents a_o_warmths a_o_depths a_o_tape a_o_readFar a_o_readTone a_o_readSea a_o_code a_o_cellAt a_o_courseAt a_o_paceAt a_o_turnsAt a_o_slowAt a_o_fuelAt a_o_ringAt a_o_pieceParts a_o_dragCell a_o_dragBy a_o_sums a_o_shares a_o_keptFar a_o_image a_o_lanes a_o_sizes a_o_items a_o_movedItems o_taped o_at o_wrong o_level o_noRings o_noTones o_noFuel o_pieces o_drags o_all o_noPieces o_noDrags o_kept o_sets o_ringFar o_ringTone o_currents o_warmths o_depths o_code o_cellAt o_courseAt o_paceAt o_turnsAt o_slowAt o_fuelAt o_ringAt o_pieceParts o_dragCell o_dragBy o_sums) → va_S A s.heap H locs → ∀ (ls : Array Slot), lv_has ls 5 [(0, .ref h_o), (2, .int v2)] → okP (f_X7_next_B111 (f_X7_next_L9 n9) v2 o_level o_noRings o_noTones o_noFuel o_pieces o_drags o_all o_noPieces o_noDrags o_sets o_ringFar o_ringTone o_currents o_warmths o_depths o_code o_cellAt o_courseAt o_paceAt o_turnsAt o_slowAt o_fuelAt o_ringAt o_pieceParts o_dragCell o_dragBy o_sums) post → W p l e (headSpec wsX7_next rm_X7_next).room s m ([.ref h_o] : List Value).toArray below meth c H locs 0 0 Q (F0 m 111 ls []) := by
        intro v2 o_level o_noRings o_noTones o_noFuel o_all o_noPieces o_noDrags o_code o_cellAt o_courseAt o_paceAt o_turnsAt o_slowAt o_fuelAt o_ringAt o_sums H locs hP hD hS ls hl hw
        unfold f_X7_next_B111 at hw
        refine lv_iload_n hx hb dX7_next_111 rfl (lv_at hl 1 rfl) ?_
        refine lv_goto (tgt := 116) hx hb dX7_next_112 (by decide) ?_
        exact w116 v2 v2 o_level o_noRings o_noTones o_noFuel o_all o_noPieces o_noDrags o_code o_cellAt o_courseAt o_paceAt o_turnsAt o_slowAt o_fuelAt o_ringAt o_sums _ _ hP hD hS _ (lv_sub hl [0, 1] rfl) hw
      have w35 : ∀ (n : Nat), ∀ (v1 : Int32) (v2 : Int32) (v3 : Int32) (v4 : Int32) (o_level : Int32) (o_noRings : Int32) (o_noTones : Int32) (o_noFuel : Int32) (o_all : Int64) (o_noPieces : Int32) (o_noDrags : Int32) (o_code : Nat → Int32) (o_cellAt : Nat → Int32) (o_courseAt : Nat → Int32) (o_paceAt : Nat → Int32) (o_turnsAt : Nat → Int32) (o_slowAt : Nat → Int32) (o_fuelAt : Nat → Int32) (o_ringAt : Nat → Int32) (o_sums : Nat → Int64) (H : Heap) (locs : List Loc), va_P (dC, dI) vwCl (W_X7_next cyI cyJ cyO h_o a_o_sets a_o_ringFar a_o_ringTone a_o_currents a_o_warmths a_o_depths a_o_tape a_o_readFar a_o_readTone a_o_readSea a_o_code a_o_cellAt a_o_courseAt a_o_paceAt a_o_turnsAt a_o_slowAt a_o_fuelAt a_o_ringAt a_o_pieceParts a_o_dragCell a_o_dragBy a_o_sums a_o_shares a_o_keptFar a_o_image a_o_lanes a_o_sizes a_o_items a_o_movedItems o_taped o_at o_wrong o_level o_noRings o_noTones o_noFuel o_pieces o_drags o_all o_noPieces o_noDrags o_kept o_sets o_ringFar o_ringTone o_currents o_warmths o_depths o_code o_cellAt o_courseAt o_paceAt o_turnsAt o_slowAt o_fuelAt o_ringAt o_pieceParts o_dragCell o_dragBy o_sums) H → va_D A (W_X7_next cyI cyJ cyO h_o a_o_sets a_o_ringFar a_o_ringTone a_o_currents a_o_warmths a_o_depths a_o_tape a_o_readFar a_o_readTone a_o_readSea a_o_code a_o_cellAt a_o_courseAt a_o_paceAt a_o_turnsAt a_o_slowAt a_o_fuelAt a_o_ringAt a_o_pieceParts a_o_dragCell a_o_dragBy a_o_sums a_o_shares a_o_keptFar a_o_image a_o_lanes a_o_sizes a_o_items a_o_movedItems o_taped o_at o_wrong o_level o_noRings o_noTones o_noFuel o_pieces o_drags o_all o_noPieces o_noDrags o_kept o_sets o_ringFar o_ringTone o_currents o_warmths o_depths o_code o_cellAt o_courseAt o_paceAt o_turnsAt o_slowAt o_fuelAt o_ringAt o_pieceParts o_dragCell o_dragBy o_sums) → va_S A s.heap H locs → ∀ (ls : Array Slot), lv_has ls 5 [(0, .ref h_o), (1, .int v1), (2, .int v2), (3, .int v3), (4, .int v4)] → okP (f_X7_next_L35 (f_X7_next_L9 n9) n v1 v2 v3 v4 o_level o_noRings o_noTones o_noFuel o_pieces o_drags o_all o_noPieces o_noDrags o_sets o_ringFar o_ringTone o_currents o_warmths o_depths o_code o_cellAt o_courseAt o_paceAt o_turnsAt o_slowAt o_fuelAt o_ringAt o_pieceParts o_dragCell o_dragBy o_sums) post → W p l e (headSpec wsX7_next rm_X7_next).room s m ([.ref h_o] : List Value).toArray below meth c H locs 0 0 Q (F0 m 35 ls []) := by
        intro n
        induction n with
        | zero =>
          intro v1 v2 v3 v4 o_level o_noRings o_noTones o_noFuel o_all o_noPieces o_noDrags o_code o_cellAt o_courseAt o_paceAt o_turnsAt o_slowAt o_fuelAt o_ringAt o_sums H locs hP hD hS ls hl hw
          exact (ok0 hw).elim
        | succ n35 ih35 =>
          have w64 : ∀ (v1 : Int32) (v2 : Int32) (v4 : Int32) (y0 : Int32) (o_level : Int32) (o_noRings : Int32) (o_noTones : Int32) (o_noFuel : Int32) (o_all : Int64) (o_noPieces : Int32) (o_noDrags : Int32) (o_code : Nat → Int32) (o_cellAt : Nat → Int32) (o_courseAt : Nat → Int32) (o_paceAt : Nat → Int32) (o_turnsAt : Nat → Int32) (o_slowAt : Nat → Int32) (o_fuelAt : Nat → Int32) (o_ringAt : Nat → Int32) (o_sums : Nat → Int64) (H : Heap) (locs : List Loc), va_P (dC, dI) vwCl (W_X7_next cyI cyJ cyO h_o a_o_sets a_o_ringFar a_o_ringTone a_o_currents a_o_warmths a_o_depths a_o_tape a_o_readFar a_o_readTone a_o_readSea a_o_code a_o_cellAt a_o_courseAt a_o_paceAt a_o_turnsAt a_o_slowAt a_o_fuelAt a_o_ringAt a_o_pieceParts a_o_dragCell a_o_dragBy a_o_sums a_o_shares a_o_keptFar a_o_image a_o_lanes a_o_sizes a_o_items a_o_movedItems o_taped o_at o_wrong o_level o_noRings o_noTones o_noFuel o_pieces o_drags o_all o_noPieces o_noDrags o_kept o_sets o_ringFar o_ringTone o_currents o_warmths o_depths o_code o_cellAt o_courseAt o_paceAt o_turnsAt o_slowAt o_fuelAt o_ringAt o_pieceParts o_dragCell o_dragBy o_sums) H → va_D A (W_X7_next cyI cyJ cyO h_o a_o_sets a_o_ringFar a_o_ringTone a_o_currents a_o_warmths a_o_depths a_o_tape a_o_readFar a_o_readTone a_o_readSea a_o_code a_o_cellAt a_o_courseAt a_o_paceAt a_o_turnsAt a_o_slowAt a_o_fuelAt a_o_ringAt a_o_pieceParts a_o_dragCell a_o_dragBy a_o_sums a_o_shares a_o_keptFar a_o_image a_o_lanes a_o_sizes a_o_items a_o_movedItems o_taped o_at o_wrong o_level o_noRings o_noTones o_noFuel o_pieces o_drags o_all o_noPieces o_noDrags o_kept o_sets o_ringFar o_ringTone o_currents o_warmths o_depths o_code o_cellAt o_courseAt o_paceAt o_turnsAt o_slowAt o_fuelAt o_ringAt o_pieceParts o_dragCell o_dragBy o_sums) → va_S A s.heap H locs → ∀ (ls : Array Slot), lv_has ls 5 [(0, .ref h_o), (1, .int v1), (2, .int v2), (4, .int v4)] → okP (f_X7_next_B64 (f_X7_next_L9 n9) (f_X7_next_L35 (f_X7_next_L9 n9) n35) v1 v2 v4 y0 o_level o_noRings o_noTones o_noFuel o_pieces o_drags o_all o_noPieces o_noDrags o_sets o_ringFar o_ringTone o_currents o_warmths o_depths o_code o_cellAt o_courseAt o_paceAt o_turnsAt o_slowAt o_fuelAt o_ringAt o_pieceParts o_dragCell o_dragBy o_sums) post → W p l e (headSpec wsX7_next rm_X7_next).room s m ([.ref h_o] : List Value).toArray below meth c H locs 0 0 Q (F0 m 64 ls [.int y0]) := by
            intro v1 v2 v4 y0 o_level o_noRings o_noTones o_noFuel o_all o_noPieces o_noDrags o_code o_cellAt o_courseAt o_paceAt o_turnsAt o_slowAt o_fuelAt o_ringAt o_sums H locs hP hD hS ls hl hw
            unfold f_X7_next_B64 at hw
            refine lv_istore_n (lv' := [(3, .int y0), (0, .ref h_o), (1, .int v1), (2, .int v2), (4, .int v4)]) hx hb dX7_next_64 rfl hl (by decide) rfl (fun ls hl => ?_)
            obtain ⟨x_2, ex_2⟩ : ∃ y : Int32, y = v4 + 1 := ⟨_, rfl⟩
            replace hw := okN ex_2 hw
            refine lv_iinc (v := x_2) (lv' := [(4, .int x_2), (3, .int y0), (0, .ref h_o), (1, .int v1), (2, .int v2)]) hx hb dX7_next_65 hl (k := 4) rfl (by rw [ex_2]; rfl) (by decide) rfl (fun ls hl => ?_)
            clear ex_2
            refine lv_goto (tgt := 35) hx hb dX7_next_68 (by decide) ?_
            exact ih35 v1 v2 y0 x_2 o_level o_noRings o_noTones o_noFuel o_all o_noPieces o_noDrags o_code o_cellAt o_courseAt o_paceAt o_turnsAt o_slowAt o_fuelAt o_ringAt o_sums _ _ hP hD hS _ (lv_sub hl [2, 3, 4, 1, 0] rfl) hw
          have w63 : ∀ (v1 : Int32) (v2 : Int32) (v4 : Int32) (o_level : Int32) (o_noRings : Int32) (o_noTones : Int32) (o_noFuel : Int32) (o_all : Int64) (o_noPieces : Int32) (o_noDrags : Int32) (o_code : Nat → Int32) (o_cellAt : Nat → Int32) (o_courseAt : Nat → Int32) (o_paceAt : Nat → Int32) (o_turnsAt : Nat → Int32) (o_slowAt : Nat → Int32) (o_fuelAt : Nat → Int32) (o_ringAt : Nat → Int32) (o_sums : Nat → Int64) (H : Heap) (locs : List Loc), va_P (dC, dI) vwCl (W_X7_next cyI cyJ cyO h_o a_o_sets a_o_ringFar a_o_ringTone a_o_currents a_o_warmths a_o_depths a_o_tape a_o_readFar a_o_readTone a_o_readSea a_o_code a_o_cellAt a_o_courseAt a_o_paceAt a_o_turnsAt a_o_slowAt a_o_fuelAt a_o_ringAt a_o_pieceParts a_o_dragCell a_o_dragBy a_o_sums a_o_shares a_o_keptFar a_o_image a_o_lanes a_o_sizes a_o_items a_o_movedItems o_taped o_at o_wrong o_level o_noRings o_noTones o_noFuel o_pieces o_drags o_all o_noPieces o_noDrags o_kept o_sets o_ringFar o_ringTone o_currents o_warmths o_depths o_code o_cellAt o_courseAt o_paceAt o_turnsAt o_slowAt o_fuelAt o_ringAt o_pieceParts o_dragCell o_dragBy o_sums) H → va_D A (W_X7_next cyI cyJ cyO h_o a_o_sets a_o_ringFar a_o_ringTone a_o_currents a_o_warmths a_o_depths a_o_tape a_o_readFar a_o_readTone a_o_readSea a_o_code a_o_cellAt a_o_courseAt a_o_paceAt a_o_turnsAt a_o_slowAt a_o_fuelAt a_o_ringAt a_o_pieceParts a_o_dragCell a_o_dragBy a_o_sums a_o_shares a_o_keptFar a_o_image a_o_lanes a_o_sizes a_o_items a_o_movedItems o_taped o_at o_wrong o_level o_noRings o_noTones o_noFuel o_pieces o_drags o_all o_noPieces o_noDrags o_kept o_sets o_ringFar o_ringTone o_currents o_warmths o_depths o_code o_cellAt o_courseAt o_paceAt o_turnsAt o_slowAt o_fuelAt o_ringAt o_pieceParts o_dragCell o_dragBy o_sums) → va_S A s.heap H locs → ∀ (ls : Array Slot), lv_has ls 5 [(0, .ref h_o), (1, .int v1), (2, .int v2), (4, .int v4)] → okP (f_X7_next_B63 (f_X7_next_L9 n9) (f_X7_next_L35 (f_X7_next_L9 n9) n35) v1 v2 v4 o_level o_noRings o_noTones o_noFuel o_pieces o_drags o_all o_noPieces o_noDrags o_sets o_ringFar o_ringTone o_currents o_warmths o_depths o_code o_cellAt o_courseAt o_paceAt o_turnsAt o_slowAt o_fuelAt o_ringAt o_pieceParts o_dragCell o_dragBy o_sums) post → W p l e (headSpec wsX7_next rm_X7_next).room s m ([.ref h_o] : List Value).toArray below meth c H locs 0 0 Q (F0 m 63 ls []) := by
            intro v1 v2 v4 o_level o_noRings o_noTones o_noFuel o_all o_noPieces o_noDrags o_code o_cellAt o_courseAt o_paceAt o_turnsAt o_slowAt o_fuelAt o_ringAt o_sums H locs hP hD hS ls hl hw
            unfold f_X7_next_B63 at hw
            refine lv_iconst (v := 0) hx hb dX7_next_63 (by decide) ?_
            exact w64 v1 v2 v4 0 o_level o_noRings o_noTones o_noFuel o_all o_noPieces o_noDrags o_code o_cellAt o_courseAt o_paceAt o_turnsAt o_slowAt o_fuelAt o_ringAt o_sums _ _ hP hD hS _ (lv_sub hl [0, 1, 2, 3] rfl) hw
          intro v1 v2 v3 v4 o_level o_noRings o_noTones o_noFuel o_all o_noPieces o_noDrags o_code o_cellAt o_courseAt o_paceAt o_turnsAt o_slowAt o_fuelAt o_ringAt o_sums H locs hP hD hS ls hl hw
          replace hw : okP (f_X7_next_L35b (f_X7_next_L9 n9) (f_X7_next_L35 (f_X7_next_L9 n9) n35) v1 v2 v3 v4 o_level o_noRings o_noTones o_noFuel o_pieces o_drags o_all o_noPieces o_noDrags o_sets o_ringFar o_ringTone o_currents o_warmths o_depths o_code o_cellAt o_courseAt o_paceAt o_turnsAt o_slowAt o_fuelAt o_ringAt o_pieceParts o_dragCell o_dragBy o_sums) post := hw
          unfold f_X7_next_L35b at hw
          refine lv_iload hx hb dX7_next_35 (lv_at hl 4 rfl) ?_
          refine lv_aload_n hx hb dX7_next_37 rfl (lv_at hl 0 rfl) ?_
          refine va_get (D := (dC, dI)) (ci := 7) (v := .int o_drags) (C := RX7) (T := TX7) (N := 42) hx hb hts hi7 hown hK hP 0 rfl rfl 27 (by decide) hq0 (fun _ h9 => h9) rfl dX7_next_38 ?_
          refine lv_icmp_ge (tgt := 71) hx hb dX7_next_41 (by decide) (fun c_3 => ?_) (fun c_3 => ?_)
          · replace hw := okT hw c_3
            clear c_3
            refine lv_iload_n hx hb dX7_next_71 rfl (lv_at hl 3 rfl) ?_
            refine lv_if_eq (tgt := 115) hx hb dX7_next_72 (by decide) (fun c_4 => ?_) (fun c_4 => ?_)
            · replace hw := okT hw c_4
              clear c_4
              exact w115 v1 v2 o_level o_noRings o_noTones o_noFuel o_all o_noPieces o_noDrags o_code o_cellAt o_courseAt o_paceAt o_turnsAt o_slowAt o_fuelAt o_ringAt o_sums _ _ hP hD hS _ (lv_sub hl [0, 1, 2] rfl) hw
            · replace hw := okF hw c_4
              clear c_4
              refine lv_iload_n hx hb dX7_next_75 rfl (lv_at hl 1 rfl) ?_
              refine lv_if_lt (tgt := 111) hx hb dX7_next_76 (by decide) (fun c_5 => ?_) (fun c_5 => ?_)
              · replace hw := okT hw c_5
                clear c_5
                exact w111 v2 o_level o_noRings o_noTones o_noFuel o_all o_noPieces o_noDrags o_code o_cellAt o_courseAt o_paceAt o_turnsAt o_slowAt o_fuelAt o_ringAt o_sums _ _ hP hD hS _ (lv_sub hl [0, 2] rfl) hw
              · replace hw := okF hw c_5
                clear c_5
                refine lv_aload_n hx hb dX7_next_79 rfl (lv_at hl 0 rfl) ?_
                refine va_get (D := (dC, dI)) (ci := 7) (v := .ref a_o_sums) (C := RX7) (T := TX7) (N := 42) hx hb hts hi7 hown hK hP 0 rfl rfl 30 (by decide) hq2 (fun _ h9 => h9) rfl dX7_next_80 ?_
                refine lv_iload_n hx hb dX7_next_83 rfl (lv_at hl 2 rfl) ?_
                obtain ⟨h_6, hw⟩ := okC hw
                refine va_lald (i := v2) hx hb hK hP 18 1 rfl rfl h_6 dX7_next_84 ?_
                refine lv_aload_n hx hb dX7_next_85 rfl (lv_at hl 0 rfl) ?_
                refine va_get (D := (dC, dI)) (ci := 7) (v := .ref a_o_depths) (C := RX7) (T := TX7) (N := 42) hx hb hts hi7 hown hK hP 0 rfl rfl 5 (by decide) hq3 (fun _ h9 => h9) rfl dX7_next_86 ?_
                refine lv_iload_n hx hb dX7_next_89 rfl (lv_at hl 1 rfl) ?_
                obtain ⟨h_7, hw⟩ := okC hw
                refine va_iald (i := v1) hx hb hK hP 6 0 rfl rfl h_7 dX7_next_90 ?_
                refine lv_i2l (v := (o_depths v1.toNatClampNeg).toInt64) hx hb dX7_next_91 rfl ?_
                refine lv_lmul hx hb dX7_next_92 ?_
                refine lv_aload_n hx hb dX7_next_93 rfl (lv_at hl 0 rfl) ?_
                refine va_get (D := (dC, dI)) (ci := 7) (v := .ref a_o_sums) (C := RX7) (T := TX7) (N := 42) hx hb hts hi7 hown hK hP 0 rfl rfl 30 (by decide) hq2 (fun _ h9 => h9) rfl dX7_next_94 ?_
                refine lv_iload_n hx hb dX7_next_97 rfl (lv_at hl 1 rfl) ?_
                obtain ⟨h_8, hw⟩ := okC hw
                refine va_lald (i := v1) hx hb hK hP 18 1 rfl rfl h_8 dX7_next_98 ?_
                refine lv_aload_n hx hb dX7_next_99 rfl (lv_at hl 0 rfl) ?_
                refine va_get (D := (dC, dI)) (ci := 7) (v := .ref a_o_depths) (C := RX7) (T := TX7) (N := 42) hx hb hts hi7 hown hK hP 0 rfl rfl 5 (by decide) hq3 (fun _ h9 => h9) rfl dX7_next_100 ?_
                refine lv_iload_n hx hb dX7_next_103 rfl (lv_at hl 2 rfl) ?_
                obtain ⟨h_9, hw⟩ := okC hw
                refine va_iald (i := v2) hx hb hK hP 6 0 rfl rfl h_9 dX7_next_104 ?_
                refine lv_i2l (v := (o_depths v2.toNatClampNeg).toInt64) hx hb dX7_next_105 rfl ?_
                refine lv_lmul hx hb dX7_next_106 ?_
                refine W.lcmp hx hb dX7_next_107 ?_
                refine lv_if_le (tgt := 115) hx hb dX7_next_108 (by decide) (fun c_10 => ?_) (fun c_10 => ?_)
                · replace hw := okT hw c_10
                  clear c_10
                  exact w115 v1 v2 o_level o_noRings o_noTones o_noFuel o_all o_noPieces o_noDrags o_code o_cellAt o_courseAt o_paceAt o_turnsAt o_slowAt o_fuelAt o_ringAt o_sums _ _ hP hD hS _ (lv_sub hl [0, 1, 2] rfl) hw
                · replace hw := okF hw c_10
                  clear c_10
                  exact w111 v2 o_level o_noRings o_noTones o_noFuel o_all o_noPieces o_noDrags o_code o_cellAt o_courseAt o_paceAt o_turnsAt o_slowAt o_fuelAt o_ringAt o_sums _ _ hP hD hS _ (lv_sub hl [0, 2] rfl) hw
          · replace hw := okF hw c_3
            clear c_3
            refine lv_iload_n hx hb dX7_next_44 rfl (lv_at hl 3 rfl) ?_
            refine lv_if_eq (tgt := 63) hx hb dX7_next_45 (by decide) (fun c_11 => ?_) (fun c_11 => ?_)
            · replace hw := okT hw c_11
              clear c_11
              exact w63 v1 v2 v4 o_level o_noRings o_noTones o_noFuel o_all o_noPieces o_noDrags o_code o_cellAt o_courseAt o_paceAt o_turnsAt o_slowAt o_fuelAt o_ringAt o_sums _ _ hP hD hS _ (lv_sub hl [0, 1, 2, 4] rfl) hw
            · replace hw := okF hw c_11
              clear c_11
              refine lv_aload_n hx hb dX7_next_48 rfl (lv_at hl 0 rfl) ?_
              refine va_get (D := (dC, dI)) (ci := 7) (v := .ref a_o_dragCell) (C := RX7) (T := TX7) (N := 42) hx hb hts hi7 hown hK hP 0 rfl rfl 28 (by decide) hq4 (fun _ h9 => h9) rfl dX7_next_49 ?_
              refine lv_iload hx hb dX7_next_52 (lv_at hl 4 rfl) ?_
              obtain ⟨h_12, hw⟩ := okC hw
              refine va_iald (i := v4) hx hb hK hP 16 0 rfl rfl h_12 dX7_next_54 ?_
              refine lv_iload_n hx hb dX7_next_55 rfl (lv_at hl 2 rfl) ?_
              refine lv_icmp_eq (tgt := 63) hx hb dX7_next_56 (by decide) (fun c_13 => ?_) (fun c_13 => ?_)
              · replace hw := okT hw c_13
                clear c_13
                exact w63 v1 v2 v4 o_level o_noRings o_noTones o_noFuel o_all o_noPieces o_noDrags o_code o_cellAt o_courseAt o_paceAt o_turnsAt o_slowAt o_fuelAt o_ringAt o_sums _ _ hP hD hS _ (lv_sub hl [0, 1, 2, 4] rfl) hw
              · replace hw := okF hw c_13
                clear c_13
                refine lv_iconst (v := 1) hx hb dX7_next_59 (by decide) ?_
                refine lv_goto (tgt := 64) hx hb dX7_next_60 (by decide) ?_
                exact w64 v1 v2 v4 1 o_level o_noRings o_noTones o_noFuel o_all o_noPieces o_noDrags o_code o_cellAt o_courseAt o_paceAt o_turnsAt o_slowAt o_fuelAt o_ringAt o_sums _ _ hP hD hS _ (lv_sub hl [0, 1, 2, 4] rfl) hw
      have w31 : ∀ (v1 : Int32) (v2 : Int32) (y0 : Int32) (o_level : Int32) (o_noRings : Int32) (o_noTones : Int32) (o_noFuel : Int32) (o_all : Int64) (o_noPieces : Int32) (o_noDrags : Int32) (o_code : Nat → Int32) (o_cellAt : Nat → Int32) (o_courseAt : Nat → Int32) (o_paceAt : Nat → Int32) (o_turnsAt : Nat → Int32) (o_slowAt : Nat → Int32) (o_fuelAt : Nat → Int32) (o_ringAt : Nat → Int32) (o_sums : Nat → Int64) (H : Heap) (locs : List Loc), va_P (dC, dI) vwCl (W_X7_next cyI cyJ cyO h_o a_o_sets a_o_ringFar a_o_ringTone a_o_currents a_o_warmths a_o_depths a_o_tape a_o_readFar a_o_readTone a_o_readSea a_o_code a_o_cellAt a_o_courseAt a_o_paceAt a_o_turnsAt a_o_slowAt a_o_fuelAt a_o_ringAt a_o_pieceParts a_o_dragCell a_o_dragBy a_o_sums a_o_shares a_o_keptFar a_o_image a_o_lanes a_o_sizes a_o_items a_o_movedItems o_taped o_at o_wrong o_level o_noRings o_noTones o_noFuel o_pieces o_drags o_all o_noPieces o_noDrags o_kept o_sets o_ringFar o_ringTone o_currents o_warmths o_depths o_code o_cellAt o_courseAt o_paceAt o_turnsAt o_slowAt o_fuelAt o_ringAt o_pieceParts o_dragCell o_dragBy o_sums) H → va_D A (W_X7_next cyI cyJ cyO h_o a_o_sets a_o_ringFar a_o_ringTone a_o_currents a_o_warmths a_o_depths a_o_tape a_o_readFar a_o_readTone a_o_readSea a_o_code a_o_cellAt a_o_courseAt a_o_paceAt a_o_turnsAt a_o_slowAt a_o_fuelAt a_o_ringAt a_o_pieceParts a_o_dragCell a_o_dragBy a_o_sums a_o_shares a_o_keptFar a_o_image a_o_lanes a_o_sizes a_o_items a_o_movedItems o_taped o_at o_wrong o_level o_noRings o_noTones o_noFuel o_pieces o_drags o_all o_noPieces o_noDrags o_kept o_sets o_ringFar o_ringTone o_currents o_warmths o_depths o_code o_cellAt o_courseAt o_paceAt o_turnsAt o_slowAt o_fuelAt o_ringAt o_pieceParts o_dragCell o_dragBy o_sums) → va_S A s.heap H locs → ∀ (ls : Array Slot), lv_has ls 5 [(0, .ref h_o), (1, .int v1), (2, .int v2)] → okP (f_X7_next_B31 (f_X7_next_L9 n9) v1 v2 y0 o_level o_noRings o_noTones o_noFuel o_pieces o_drags o_all o_noPieces o_noDrags o_sets o_ringFar o_ringTone o_currents o_warmths o_depths o_code o_cellAt o_courseAt o_paceAt o_turnsAt o_slowAt o_fuelAt o_ringAt o_pieceParts o_dragCell o_dragBy o_sums) post → W p l e (headSpec wsX7_next rm_X7_next).room s m ([.ref h_o] : List Value).toArray below meth c H locs 0 0 Q (F0 m 31 ls [.int y0]) := by
        intro v1 v2 y0 o_level o_noRings o_noTones o_noFuel o_all o_noPieces o_noDrags o_code o_cellAt o_courseAt o_paceAt o_turnsAt o_slowAt o_fuelAt o_ringAt o_sums H locs hP hD hS ls hl hw
        unfold f_X7_next_B31 at hw
        refine lv_istore_n (lv' := [(3, .int y0), (0, .ref h_o), (1, .int v1), (2, .int v2)]) hx hb dX7_next_31 rfl hl (by decide) rfl (fun ls hl => ?_)
        refine lv_iconst (v := 0) hx hb dX7_next_32 (by decide) ?_
        refine lv_istore (lv' := [(4, .int 0), (3, .int y0), (0, .ref h_o), (1, .int v1), (2, .int v2)]) hx hb dX7_next_33 hl (by decide) rfl (fun ls hl => ?_)
        exact w35 FU v1 v2 y0 0 o_level o_noRings o_noTones o_noFuel o_all o_noPieces o_noDrags o_code o_cellAt o_courseAt o_paceAt o_turnsAt o_slowAt o_fuelAt o_ringAt o_sums _ _ hP hD hS _ (lv_sub hl [2, 3, 4, 1, 0] rfl) hw
      intro v1 v2 o_level o_noRings o_noTones o_noFuel o_all o_noPieces o_noDrags o_code o_cellAt o_courseAt o_paceAt o_turnsAt o_slowAt o_fuelAt o_ringAt o_sums H locs hP hD hS ls hl hw
      replace hw : okP (f_X7_next_L9b (f_X7_next_L9 n9) v1 v2 o_level o_noRings o_noTones o_noFuel o_pieces o_drags o_all o_noPieces o_noDrags o_sets o_ringFar o_ringTone o_currents o_warmths o_depths o_code o_cellAt o_courseAt o_paceAt o_turnsAt o_slowAt o_fuelAt o_ringAt o_pieceParts o_dragCell o_dragBy o_sums) post := hw
      unfold f_X7_next_L9b at hw
      refine lv_iload_n hx hb dX7_next_9 rfl (lv_at hl 2 rfl) ?_
      refine lv_bipush (v := 100) hx hb dX7_next_10 (by decide) ?_
      refine lv_icmp_ge (tgt := 123) hx hb dX7_next_12 (by decide) (fun c_14 => ?_) (fun c_14 => ?_)
      · replace hw := okT hw c_14
        clear c_14
        refine lv_iload_n hx hb dX7_next_123 rfl (lv_at hl 1 rfl) ?_
        rw [hQ]
        exact W.iret (v := v1) hx hb hr (fun t ht hW => ⟨⟨v1, (o_level, o_noRings, o_noTones, o_noFuel, o_all, o_noPieces, o_noDrags, o_code, o_cellAt, o_courseAt, o_paceAt, o_turnsAt, o_slowAt, o_fuelAt, o_ringAt, o_sums), rfl, okS hw, by rw [ht]; exact hP, va_K.moved hW.alike hK, hD⟩, hS.F ht⟩) hS.2.2 dX7_next_124
      · replace hw := okF hw c_14
        clear c_14
        refine lv_aload_n hx hb dX7_next_15 rfl (lv_at hl 0 rfl) ?_
        refine va_get (D := (dC, dI)) (ci := 7) (v := .ref a_o_sums) (C := RX7) (T := TX7) (N := 42) hx hb hts hi7 hown hK hP 0 rfl rfl 30 (by decide) hq2 (fun _ h9 => h9) rfl dX7_next_16 ?_
        refine lv_iload_n hx hb dX7_next_19 rfl (lv_at hl 2 rfl) ?_
        obtain ⟨h_15, hw⟩ := okC hw
        refine va_lald (i := v2) hx hb hK hP 18 1 rfl rfl h_15 dX7_next_20 ?_
        refine lv_lconst (v := 0) hx hb dX7_next_21 (by decide) ?_
        refine W.lcmp hx hb dX7_next_22 ?_
        refine lv_if_le (tgt := 30) hx hb dX7_next_23 (by decide) (fun c_16 => ?_) (fun c_16 => ?_)
        · replace hw := okT hw c_16
          clear c_16
          refine lv_iconst (v := 0) hx hb dX7_next_30 (by decide) ?_
          exact w31 v1 v2 0 o_level o_noRings o_noTones o_noFuel o_all o_noPieces o_noDrags o_code o_cellAt o_courseAt o_paceAt o_turnsAt o_slowAt o_fuelAt o_ringAt o_sums _ _ hP hD hS _ (lv_sub hl [0, 1, 2] rfl) hw
        · replace hw := okF hw c_16
          clear c_16
          refine lv_iconst (v := 1) hx hb dX7_next_26 (by decide) ?_
          refine lv_goto (tgt := 31) hx hb dX7_next_27 (by decide) ?_
          exact w31 v1 v2 1 o_level o_noRings o_noTones o_noFuel o_all o_noPieces o_noDrags o_code o_cellAt o_courseAt o_paceAt o_turnsAt o_slowAt o_fuelAt o_ringAt o_sums _ _ hP hD hS _ (lv_sub hl [0, 1, 2] rfl) hw
  unfold f_X7_next at hw
  have hP : va_P (dC, dI) vwCl (W_X7_next cyI cyJ cyO h_o a_o_sets a_o_ringFar a_o_ringTone a_o_currents a_o_warmths a_o_depths a_o_tape a_o_readFar a_o_readTone a_o_readSea a_o_code a_o_cellAt a_o_courseAt a_o_paceAt a_o_turnsAt a_o_slowAt a_o_fuelAt a_o_ringAt a_o_pieceParts a_o_dragCell a_o_dragBy a_o_sums a_o_shares a_o_keptFar a_o_image a_o_lanes a_o_sizes a_o_items a_o_movedItems o_taped o_at o_wrong o_level o_noRings o_noTones o_noFuel o_pieces o_drags o_all o_noPieces o_noDrags o_kept o_sets o_ringFar o_ringTone o_currents o_warmths o_depths o_code o_cellAt o_courseAt o_paceAt o_turnsAt o_slowAt o_fuelAt o_ringAt o_pieceParts o_dragCell o_dragBy o_sums) s.heap := hP
  obtain ⟨H, hH⟩ : ∃ H, H = s.heap := ⟨_, rfl⟩
  obtain ⟨locs, hlo⟩ : ∃ x : List Loc, x = [] := ⟨_, rfl⟩
  have hP : va_P (dC, dI) vwCl (W_X7_next cyI cyJ cyO h_o a_o_sets a_o_ringFar a_o_ringTone a_o_currents a_o_warmths a_o_depths a_o_tape a_o_readFar a_o_readTone a_o_readSea a_o_code a_o_cellAt a_o_courseAt a_o_paceAt a_o_turnsAt a_o_slowAt a_o_fuelAt a_o_ringAt a_o_pieceParts a_o_dragCell a_o_dragBy a_o_sums a_o_shares a_o_keptFar a_o_image a_o_lanes a_o_sizes a_o_items a_o_movedItems o_taped o_at o_wrong o_level o_noRings o_noTones o_noFuel o_pieces o_drags o_all o_noPieces o_noDrags o_kept o_sets o_ringFar o_ringTone o_currents o_warmths o_depths o_code o_cellAt o_courseAt o_paceAt o_turnsAt o_slowAt o_fuelAt o_ringAt o_pieceParts o_dragCell o_dragBy o_sums) H := by rw [hH]; exact hP
  have hS : va_S A s.heap H locs := by rw [hH, hlo]; exact hS
  refine kH hH hlo ?_
  clear hH hlo
  refine lv_aload_n hx hb dX7_next_0 rfl (lv_at hl 0 rfl) ?_
  have hPc := hP.sub (ws' := (W_X7_endsAsTold cyI cyJ cyO h_o a_o_sets a_o_ringFar a_o_ringTone a_o_currents a_o_warmths a_o_depths a_o_tape a_o_readFar a_o_readTone a_o_readSea a_o_code a_o_cellAt a_o_courseAt a_o_paceAt a_o_turnsAt a_o_slowAt a_o_fuelAt a_o_ringAt a_o_pieceParts a_o_dragCell a_o_dragBy a_o_sums a_o_shares a_o_keptFar a_o_image a_o_lanes a_o_sizes a_o_items a_o_movedItems o_taped o_at o_wrong o_level o_noRings o_noTones o_noFuel o_pieces o_drags o_all o_noPieces o_noDrags o_kept o_sets o_ringFar o_ringTone o_currents o_warmths o_code o_cellAt o_courseAt o_paceAt o_turnsAt o_slowAt o_fuelAt o_ringAt o_pieceParts o_dragCell o_dragBy o_sums)) [0, 1, 2, 3, 4, 5, 7, 8, 9, 10, 11, 12, 13, 14, 15, 16, 17, 18] rfl
  have hDc := hD.sub (ws' := (W_X7_endsAsTold cyI cyJ cyO h_o a_o_sets a_o_ringFar a_o_ringTone a_o_currents a_o_warmths a_o_depths a_o_tape a_o_readFar a_o_readTone a_o_readSea a_o_code a_o_cellAt a_o_courseAt a_o_paceAt a_o_turnsAt a_o_slowAt a_o_fuelAt a_o_ringAt a_o_pieceParts a_o_dragCell a_o_dragBy a_o_sums a_o_shares a_o_keptFar a_o_image a_o_lanes a_o_sizes a_o_items a_o_movedItems o_taped o_at o_wrong o_level o_noRings o_noTones o_noFuel o_pieces o_drags o_all o_noPieces o_noDrags o_kept o_sets o_ringFar o_ringTone o_currents o_warmths o_code o_cellAt o_courseAt o_paceAt o_turnsAt o_slowAt o_fuelAt o_ringAt o_pieceParts o_dragCell o_dragBy o_sums)) [0, 1, 2, 3, 4, 5, 7, 8, 9, 10, 11, 12, 13, 14, 15, 16, 17, 18] (by decide +kernel) rfl
  have hFc := va_free (wc := (W_X7_endsAsTold cyI cyJ cyO h_o a_o_sets a_o_ringFar a_o_ringTone a_o_currents a_o_warmths a_o_depths a_o_tape a_o_readFar a_o_readTone a_o_readSea a_o_code a_o_cellAt a_o_courseAt a_o_paceAt a_o_turnsAt a_o_slowAt a_o_fuelAt a_o_ringAt a_o_pieceParts a_o_dragCell a_o_dragBy a_o_sums a_o_shares a_o_keptFar a_o_image a_o_lanes a_o_sizes a_o_items a_o_movedItems o_taped o_at o_wrong o_level o_noRings o_noTones o_noFuel o_pieces o_drags o_all o_noPieces o_noDrags o_kept o_sets o_ringFar o_ringTone o_currents o_warmths o_code o_cellAt o_courseAt o_paceAt o_turnsAt o_slowAt o_fuelAt o_ringAt o_pieceParts o_dragCell o_dragBy o_sums)) hD hS hA [0, 1, 2, 3, 4, 5, 7, 8, 9, 10, 11, 12, 13, 14, 15, 16, 17, 18] rfl
  refine kc_v (wr := [(a_o_depths, .inl (cyI, 100, .inl o_depths))]) (va_runV (As := []) (rest := []) ⟨hx, hb, hml, hown, hts⟩ (c_X7_endsAsTold l dC dI cyI cyJ cyO H.size h_o a_o_sets a_o_ringFar a_o_ringTone a_o_currents a_o_warmths a_o_depths a_o_tape a_o_readFar a_o_readTone a_o_readSea a_o_code a_o_cellAt a_o_courseAt a_o_paceAt a_o_turnsAt a_o_slowAt a_o_fuelAt a_o_ringAt a_o_pieceParts a_o_dragCell a_o_dragBy a_o_sums a_o_shares a_o_keptFar a_o_image a_o_lanes a_o_sizes a_o_items a_o_movedItems o_taped o_at o_wrong o_level o_noRings o_noTones o_noFuel o_pieces o_drags o_all o_noPieces o_noDrags o_kept o_sets o_ringFar o_ringTone o_currents o_warmths o_code o_cellAt o_courseAt o_paceAt o_turnsAt o_slowAt o_fuelAt o_ringAt o_pieceParts o_dragCell o_dragBy o_sums _ (okb16 hw)) (cwV 0 hts (gdV (fun w h => List.mem_cons_of_mem _ h) q_991 q_993 qs_38 q_8 q_994) rfl rfl rfl (by decide +kernel) ⟨Nat.le_of_ble_eq_true rfl, Nat.le_of_ble_eq_true rfl⟩) ⟨(kpre zN_ok hK hPc hDc trivial hS hFc).1, va_recv hK hP (ci := 7) (q0 := 0) rfl rfl, (kpre zN_ok hK hPc hDc trivial hS hFc).2⟩ rfl rfl hl.1 rfl (lv_room (Nat.le_of_ble_eq_true rfl)) dX7_next_1 ⟨Nat.le_of_ble_eq_true rfl, Nat.le_of_ble_eq_true rfl⟩) hP hD hS hFc [0, 1, 2, 3, 4, 5, 7, 8, 9, 10, 11, 12, 13, 14, 15, 16, 17, 18] [6] rfl rfl (by decide +kernel) (by decide +kernel) (fun u H locs hw hP hD hS => ?_)
  obtain ⟨w_17, w_18, w_19, w_20, w_21, w_22, w_23, w_24, w_25, w_26, w_27, w_28, w_29, w_30, w_31, w_32⟩ := u
  try dsimp only at hw
  have hP : va_P (dC, dI) vwCl (W_X7_next cyI cyJ cyO h_o a_o_sets a_o_ringFar a_o_ringTone a_o_currents a_o_warmths a_o_depths a_o_tape a_o_readFar a_o_readTone a_o_readSea a_o_code a_o_cellAt a_o_courseAt a_o_paceAt a_o_turnsAt a_o_slowAt a_o_fuelAt a_o_ringAt a_o_pieceParts a_o_dragCell a_o_dragBy a_o_sums a_o_shares a_o_keptFar a_o_image a_o_lanes a_o_sizes a_o_items a_o_movedItems o_taped o_at o_wrong w_17 w_18 w_19 w_20 o_pieces o_drags w_21 w_22 w_23 o_kept o_sets o_ringFar o_ringTone o_currents o_warmths o_depths w_24 w_25 w_26 w_27 w_28 w_29 w_30 w_31 o_pieceParts o_dragCell o_dragBy w_32) H := hP.sub [1, 2, 3, 4, 5, 6, 0, 7, 8, 9, 10, 11, 12, 13, 14, 15, 16, 17, 18] rfl
  have hD : va_D A (W_X7_next cyI cyJ cyO h_o a_o_sets a_o_ringFar a_o_ringTone a_o_currents a_o_warmths a_o_depths a_o_tape a_o_readFar a_o_readTone a_o_readSea a_o_code a_o_cellAt a_o_courseAt a_o_paceAt a_o_turnsAt a_o_slowAt a_o_fuelAt a_o_ringAt a_o_pieceParts a_o_dragCell a_o_dragBy a_o_sums a_o_shares a_o_keptFar a_o_image a_o_lanes a_o_sizes a_o_items a_o_movedItems o_taped o_at o_wrong w_17 w_18 w_19 w_20 o_pieces o_drags w_21 w_22 w_23 o_kept o_sets o_ringFar o_ringTone o_currents o_warmths o_depths w_24 w_25 w_26 w_27 w_28 w_29 w_30 w_31 o_pieceParts o_dragCell o_dragBy w_32) := hD.sub [1, 2, 3, 4, 5, 6, 0, 7, 8, 9, 10, 11, 12, 13, 14, 15, 16, 17, 18] (by decide +kernel) rfl
  clear hPc hDc hFc
  refine lv_bipush (v := (-4)) hx hb dX7_next_4 (by decide) ?_
  refine lv_istore_n (lv' := [(1, .int (-4)), (0, .ref h_o)]) hx hb dX7_next_6 rfl hl (by decide) rfl (fun ls hl => ?_)
  refine lv_iconst (v := 0) hx hb dX7_next_7 (by decide) ?_
  refine lv_istore_n (lv' := [(2, .int 0), (1, .int (-4)), (0, .ref h_o)]) hx hb dX7_next_8 rfl hl (by decide) rfl (fun ls hl => ?_)
  exact w9 FU (-4) 0 w_17 w_18 w_19 w_20 w_21 w_22 w_23 w_24 w_25 w_26 w_27 w_28 w_29 w_30 w_31 w_32 _ _ hP hD hS _ (lv_sub hl [2, 1, 0] rfl) hw
/-! ===== X7_should ===== -/
theorem dX7_should_0 : decode cX7_should 0 = .ok (.iload_n 1, 1) := by decide +kernel
theorem dX7_should_1 : decode cX7_should 1 = .ok (.invokestatic 115, 3) := by decide +kernel
theorem dX7_should_4 : decode cX7_should 4 = .ok (.ifCond .eq 36, 3) := by decide +kernel
theorem dX7_should_7 : decode cX7_should 7 = .ok (.iload_n 2, 1) := by decide +kernel
theorem dX7_should_8 : decode cX7_should 8 = .ok (.i2l, 1) := by decide +kernel
theorem dX7_should_9 : decode cX7_should 9 = .ok (.lconst 0, 1) := by decide +kernel
theorem dX7_should_10 : decode cX7_should 10 = .ok (.ldc2_w 204, 3) := by decide +kernel
theorem dX7_should_13 : decode cX7_should 13 = .ok (.invokestatic 100, 3) := by decide +kernel
theorem dX7_should_16 : decode cX7_should 16 = .ok (.ifCond .eq 24, 3) := by decide +kernel
theorem dX7_should_19 : decode cX7_should 19 = .ok (.iload_n 3, 1) := by decide +kernel
theorem dX7_should_20 : decode cX7_should 20 = .ok (.i2l, 1) := by decide +kernel
theorem dX7_should_21 : decode cX7_should 21 = .ok (.lconst 0, 1) := by decide +kernel
theorem dX7_should_22 : decode cX7_should 22 = .ok (.lconst 1, 1) := by decide +kernel
theorem dX7_should_23 : decode cX7_should 23 = .ok (.invokestatic 100, 3) := by decide +kernel
theorem dX7_should_26 : decode cX7_should 26 = .ok (.ifCond .eq 14, 3) := by decide +kernel
theorem dX7_should_29 : decode cX7_should 29 = .ok (.iload 4, 2) := by decide +kernel
theorem dX7_should_31 : decode cX7_should 31 = .ok (.i2l, 1) := by decide +kernel
theorem dX7_should_32 : decode cX7_should 32 = .ok (.lconst 0, 1) := by decide +kernel
theorem dX7_should_33 : decode cX7_should 33 = .ok (.lconst 1, 1) := by decide +kernel
theorem dX7_should_34 : decode cX7_should 34 = .ok (.invokestatic 100, 3) := by decide +kernel
theorem dX7_should_37 : decode cX7_should 37 = .ok (.ifCond .ne 7, 3) := by decide +kernel
theorem dX7_should_40 : decode cX7_should 40 = .ok (.ldc2_w 124, 3) := by decide +kernel
theorem dX7_should_43 : decode cX7_should 43 = .ok (.lreturn, 1) := by decide +kernel
theorem dX7_should_44 : decode cX7_should 44 = .ok (.aload_n 0, 1) := by decide +kernel
theorem dX7_should_45 : decode cX7_should 45 = .ok (.invokevirtual 234, 3) := by decide +kernel
theorem dX7_should_48 : decode cX7_should 48 = .ok (.aload_n 0, 1) := by decide +kernel
theorem dX7_should_49 : decode cX7_should 49 = .ok (.getfield 221, 3) := by decide +kernel
theorem dX7_should_52 : decode cX7_should 52 = .ok (.lconst 0, 1) := by decide +kernel
theorem dX7_should_53 : decode cX7_should 53 = .ok (.lcmp, 1) := by decide +kernel
theorem dX7_should_54 : decode cX7_should 54 = .ok (.ifCond .ne 7, 3) := by decide +kernel
theorem dX7_should_57 : decode cX7_should 57 = .ok (.ldc2_w 237, 3) := by decide +kernel
theorem dX7_should_60 : decode cX7_should 60 = .ok (.lreturn, 1) := by decide +kernel
theorem dX7_should_61 : decode cX7_should 61 = .ok (.lconst 0, 1) := by decide +kernel
theorem dX7_should_62 : decode cX7_should 62 = .ok (.lstore 5, 2) := by decide +kernel
theorem dX7_should_64 : decode cX7_should 64 = .ok (.iconst 0, 1) := by decide +kernel
theorem dX7_should_65 : decode cX7_should 65 = .ok (.istore 7, 2) := by decide +kernel
theorem dX7_should_67 : decode cX7_should 67 = .ok (.iload 7, 2) := by decide +kernel
theorem dX7_should_69 : decode cX7_should 69 = .ok (.bipush 100, 2) := by decide +kernel
theorem dX7_should_71 : decode cX7_should 71 = .ok (.if_icmp .ge 49, 3) := by decide +kernel
theorem dX7_should_74 : decode cX7_should 74 = .ok (.lload 5, 2) := by decide +kernel
theorem dX7_should_76 : decode cX7_should 76 = .ok (.aload_n 0, 1) := by decide +kernel
theorem dX7_should_77 : decode cX7_should 77 = .ok (.getfield 73, 3) := by decide +kernel
theorem dX7_should_80 : decode cX7_should 80 = .ok (.iload 7, 2) := by decide +kernel
theorem dX7_should_82 : decode cX7_should 82 = .ok (.laload, 1) := by decide +kernel
theorem dX7_should_83 : decode cX7_should 83 = .ok (.lconst 0, 1) := by decide +kernel
theorem dX7_should_84 : decode cX7_should 84 = .ok (.lcmp, 1) := by decide +kernel
theorem dX7_should_85 : decode cX7_should 85 = .ok (.ifCond .le 25, 3) := by decide +kernel
theorem dX7_should_88 : decode cX7_should 88 = .ok (.aload_n 0, 1) := by decide +kernel
theorem dX7_should_89 : decode cX7_should 89 = .ok (.iload 7, 2) := by decide +kernel
theorem dX7_should_91 : decode cX7_should 91 = .ok (.iload_n 2, 1) := by decide +kernel
theorem dX7_should_92 : decode cX7_should 92 = .ok (.iload_n 3, 1) := by decide +kernel
theorem dX7_should_93 : decode cX7_should 93 = .ok (.invokevirtual 212, 3) := by decide +kernel
theorem dX7_should_96 : decode cX7_should 96 = .ok (.iload_n 1, 1) := by decide +kernel
theorem dX7_should_97 : decode cX7_should 97 = .ok (.if_icmp .ne 13, 3) := by decide +kernel
theorem dX7_should_100 : decode cX7_should 100 = .ok (.aload_n 0, 1) := by decide +kernel
theorem dX7_should_101 : decode cX7_should 101 = .ok (.getfield 73, 3) := by decide +kernel
theorem dX7_should_104 : decode cX7_should 104 = .ok (.iload 7, 2) := by decide +kernel
theorem dX7_should_106 : decode cX7_should 106 = .ok (.laload, 1) := by decide +kernel
theorem dX7_should_107 : decode cX7_should 107 = .ok (.goto 4, 3) := by decide +kernel
theorem dX7_should_110 : decode cX7_should 110 = .ok (.lconst 0, 1) := by decide +kernel
theorem dX7_should_111 : decode cX7_should 111 = .ok (.ladd, 1) := by decide +kernel
theorem dX7_should_112 : decode cX7_should 112 = .ok (.lstore 5, 2) := by decide +kernel
theorem dX7_should_114 : decode cX7_should 114 = .ok (.iinc 7 1, 3) := by decide +kernel
theorem dX7_should_117 : decode cX7_should 117 = .ok (.goto (-50), 3) := by decide +kernel
theorem dX7_should_120 : decode cX7_should 120 = .ok (.lload 5, 2) := by decide +kernel
theorem dX7_should_122 : decode cX7_should 122 = .ok (.aload_n 0, 1) := by decide +kernel
theorem dX7_should_123 : decode cX7_should 123 = .ok (.getfield 221, 3) := by decide +kernel
theorem dX7_should_126 : decode cX7_should 126 = .ok (.iload 4, 2) := by decide +kernel
theorem dX7_should_128 : decode cX7_should 128 = .ok (.invokestatic 239, 3) := by decide +kernel
theorem dX7_should_131 : decode cX7_should 131 = .ok (.lreturn, 1) := by decide +kernel
abbrev W_X7_should (cyI cyJ cyO : ClassId) (h_o a_o_sets a_o_ringFar a_o_ringTone a_o_currents a_o_warmths a_o_depths a_o_tape a_o_readFar a_o_readTone a_o_readSea a_o_code a_o_cellAt a_o_courseAt a_o_paceAt a_o_turnsAt a_o_slowAt a_o_fuelAt a_o_ringAt a_o_pieceParts a_o_dragCell a_o_dragBy a_o_sums a_o_shares a_o_keptFar a_o_image a_o_lanes a_o_sizes a_o_items a_o_movedItems : Nat) (o_taped : Int32) (o_at : Int32) (o_wrong : Int32) (o_level : Int32) (o_noRings : Int32) (o_noTones : Int32) (o_noFuel : Int32) (o_pieces : Int32) (o_drags : Int32) (o_all : Int64) (o_noPieces : Int32) (o_noDrags : Int32) (o_kept : Int32) (o_sets : Nat → Int32) (o_ringFar : Nat → Int32) (o_ringTone : Nat → Int32) (o_currents : Nat → Int32) (o_warmths : Nat → Int32) (o_code : Nat → Int32) (o_cellAt : Nat → Int32) (o_courseAt : Nat → Int32) (o_paceAt : Nat → Int32) (o_turnsAt : Nat → Int32) (o_slowAt : Nat → Int32) (o_fuelAt : Nat → Int32) (o_ringAt : Nat → Int32) (o_pieceParts : Nat → Int32) (o_dragCell : Nat → Int32) (o_dragBy : Nat → Int32) (o_sums : Nat → Int64) : va_W := [(h_o, .inr (7, [.ref a_o_sets, .ref a_o_ringFar, .ref a_o_ringTone, .ref a_o_currents, .ref a_o_warmths, .ref a_o_depths, .ref a_o_tape, .int o_taped, .int o_at, .int o_wrong, .ref a_o_readFar, .ref a_o_readTone, .ref a_o_readSea, .ref a_o_code, .ref a_o_cellAt, .ref a_o_courseAt, .ref a_o_paceAt, .ref a_o_turnsAt, .ref a_o_slowAt, .ref a_o_fuelAt, .ref a_o_ringAt, .int o_level, .int o_noRings, .int o_noTones, .int o_noFuel, .int o_pieces, .ref a_o_pieceParts, .int o_drags, .ref a_o_dragCell, .ref a_o_dragBy, .ref a_o_sums, .long o_all, .int o_noPieces, .int o_noDrags, .ref a_o_shares, .ref a_o_keptFar, .ref a_o_image, .int o_kept, .ref a_o_lanes, .ref a_o_sizes, .ref a_o_items, .ref a_o_movedItems])), (a_o_sets, .inl (cyI, 8, .inl o_sets)), (a_o_ringFar, .inl (cyI, 7, .inl o_ringFar)), (a_o_ringTone, .inl (cyI, 7, .inl o_ringTone)), (a_o_currents, .inl (cyI, 200, .inl o_currents)), (a_o_warmths, .inl (cyI, 200, .inl o_warmths)), (a_o_code, .inl (cyI, 7, .inl o_code)), (a_o_cellAt, .inl (cyI, 7, .inl o_cellAt)), (a_o_courseAt, .inl (cyI, 7, .inl o_courseAt)), (a_o_paceAt, .inl (cyI, 7, .inl o_paceAt)), (a_o_turnsAt, .inl (cyI, 7, .inl o_turnsAt)), (a_o_slowAt, .inl (cyI, 7, .inl o_slowAt)), (a_o_fuelAt, .inl (cyI, 7, .inl o_fuelAt)), (a_o_ringAt, .inl (cyI, 7, .inl o_ringAt)), (a_o_pieceParts, .inl (cyI, 20, .inl o_pieceParts)), (a_o_dragCell, .inl (cyI, 6, .inl o_dragCell)), (a_o_dragBy, .inl (cyI, 6, .inl o_dragBy)), (a_o_sums, .inl (cyJ, 100, .inr (.inl o_sums)))]
def f_X7_should_B111 (k67 : Int32 → Int32 → Int32 → Int32 → Int64 → Int32 → Int32 → Int32 → Int32 → Int32 → Int32 → Int32 → Int64 → Int32 → Int32 → (Nat → Int32) → (Nat → Int32) → (Nat → Int32) → (Nat → Int32) → (Nat → Int32) → (Nat → Int32) → (Nat → Int32) → (Nat → Int32) → (Nat → Int32) → (Nat → Int32) → (Nat → Int32) → (Nat → Int32) → (Nat → Int32) → (Nat → Int32) → (Nat → Int32) → (Nat → Int32) → (Nat → Int64) → Option (Int64 × Int32 × Int32 × Int32 × Int32 × Int64 × Int32 × Int32 × (Nat → Int32) × (Nat → Int32) × (Nat → Int32) × (Nat → Int32) × (Nat → Int32) × (Nat → Int32) × (Nat → Int32) × (Nat → Int32) × (Nat → Int64))) (v1 : Int32) (v2 : Int32) (v3 : Int32) (v4 : Int32) (v7 : Int32) (y0 : Int64) (y1 : Int64) (o_level : Int32) (o_noRings : Int32) (o_noTones : Int32) (o_noFuel : Int32) (o_pieces : Int32) (o_drags : Int32) (o_all : Int64) (o_noPieces : Int32) (o_noDrags : Int32) (o_sets : Nat → Int32) (o_ringFar : Nat → Int32) (o_ringTone : Nat → Int32) (o_currents : Nat → Int32) (o_warmths : Nat → Int32) (o_code : Nat → Int32) (o_cellAt : Nat → Int32) (o_courseAt : Nat → Int32) (o_paceAt : Nat → Int32) (o_turnsAt : Nat → Int32) (o_slowAt : Nat → Int32) (o_fuelAt : Nat → Int32) (o_ringAt : Nat → Int32) (o_pieceParts : Nat → Int32) (o_dragCell : Nat → Int32) (o_dragBy : Nat → Int32) (o_sums : Nat → Int64) : Option (Int64 × Int32 × Int32 × Int32 × Int32 × Int64 × Int32 × Int32 × (Nat → Int32) × (Nat → Int32) × (Nat → Int32) × (Nat → Int32) × (Nat → Int32) × (Nat → Int32) × (Nat → Int32) × (Nat → Int32) × (Nat → Int64)) :=
  nm (y1 + y0) fun x_1 =>
  nm (v7 + 1) fun x_2 =>
  k67 v1 v2 v3 v4 x_1 x_2 o_level o_noRings o_noTones o_noFuel o_pieces o_drags o_all o_noPieces o_noDrags o_sets o_ringFar o_ringTone o_currents o_warmths o_code o_cellAt o_courseAt o_paceAt o_turnsAt o_slowAt o_fuelAt o_ringAt o_pieceParts o_dragCell o_dragBy o_sums
def f_X7_should_B110 (k67 : Int32 → Int32 → Int32 → Int32 → Int64 → Int32 → Int32 → Int32 → Int32 → Int32 → Int32 → Int32 → Int64 → Int32 → Int32 → (Nat → Int32) → (Nat → Int32) → (Nat → Int32) → (Nat → Int32) → (Nat → Int32) → (Nat → Int32) → (Nat → Int32) → (Nat → Int32) → (Nat → Int32) → (Nat → Int32) → (Nat → Int32) → (Nat → Int32) → (Nat → Int32) → (Nat → Int32) → (Nat → Int32) → (Nat → Int32) → (Nat → Int64) → Option (Int64 × Int32 × Int32 × Int32 × Int32 × Int64 × Int32 × Int32 × (Nat → Int32) × (Nat → Int32) × (Nat → Int32) × (Nat → Int32) × (Nat → Int32) × (Nat → Int32) × (Nat → Int32) × (Nat → Int32) × (Nat → Int64))) (v1 : Int32) (v2 : Int32) (v3 : Int32) (v4 : Int32) (v7 : Int32) (y0 : Int64) (o_level : Int32) (o_noRings : Int32) (o_noTones : Int32) (o_noFuel : Int32) (o_pieces : Int32) (o_drags : Int32) (o_all : Int64) (o_noPieces : Int32) (o_noDrags : Int32) (o_sets : Nat → Int32) (o_ringFar : Nat → Int32) (o_ringTone : Nat → Int32) (o_currents : Nat → Int32) (o_warmths : Nat → Int32) (o_code : Nat → Int32) (o_cellAt : Nat → Int32) (o_courseAt : Nat → Int32) (o_paceAt : Nat → Int32) (o_turnsAt : Nat → Int32) (o_slowAt : Nat → Int32) (o_fuelAt : Nat → Int32) (o_ringAt : Nat → Int32) (o_pieceParts : Nat → Int32) (o_dragCell : Nat → Int32) (o_dragBy : Nat → Int32) (o_sums : Nat → Int64) : Option (Int64 × Int32 × Int32 × Int32 × Int32 × Int64 × Int32 × Int32 × (Nat → Int32) × (Nat → Int32) × (Nat → Int32) × (Nat → Int32) × (Nat → Int32) × (Nat → Int32) × (Nat → Int32) × (Nat → Int32) × (Nat → Int64)) :=
  f_X7_should_B111 k67 v1 v2 v3 v4 v7 0 y0 o_level o_noRings o_noTones o_noFuel o_pieces o_drags o_all o_noPieces o_noDrags o_sets o_ringFar o_ringTone o_currents o_warmths o_code o_cellAt o_courseAt o_paceAt o_turnsAt o_slowAt o_fuelAt o_ringAt o_pieceParts o_dragCell o_dragBy o_sums
def f_X7_should_L67b (k67 : Int32 → Int32 → Int32 → Int32 → Int64 → Int32 → Int32 → Int32 → Int32 → Int32 → Int32 → Int32 → Int64 → Int32 → Int32 → (Nat → Int32) → (Nat → Int32) → (Nat → Int32) → (Nat → Int32) → (Nat → Int32) → (Nat → Int32) → (Nat → Int32) → (Nat → Int32) → (Nat → Int32) → (Nat → Int32) → (Nat → Int32) → (Nat → Int32) → (Nat → Int32) → (Nat → Int32) → (Nat → Int32) → (Nat → Int32) → (Nat → Int64) → Option (Int64 × Int32 × Int32 × Int32 × Int32 × Int64 × Int32 × Int32 × (Nat → Int32) × (Nat → Int32) × (Nat → Int32) × (Nat → Int32) × (Nat → Int32) × (Nat → Int32) × (Nat → Int32) × (Nat → Int32) × (Nat → Int64))) (v1 : Int32) (v2 : Int32) (v3 : Int32) (v4 : Int32) (v5 : Int64) (v7 : Int32) (o_level : Int32) (o_noRings : Int32) (o_noTones : Int32) (o_noFuel : Int32) (o_pieces : Int32) (o_drags : Int32) (o_all : Int64) (o_noPieces : Int32) (o_noDrags : Int32) (o_sets : Nat → Int32) (o_ringFar : Nat → Int32) (o_ringTone : Nat → Int32) (o_currents : Nat → Int32) (o_warmths : Nat → Int32) (o_code : Nat → Int32) (o_cellAt : Nat → Int32) (o_courseAt : Nat → Int32) (o_paceAt : Nat → Int32) (o_turnsAt : Nat → Int32) (o_slowAt : Nat → Int32) (o_fuelAt : Nat → Int32) (o_ringAt : Nat → Int32) (o_pieceParts : Nat → Int32) (o_dragCell : Nat → Int32) (o_dragBy : Nat → Int32) (o_sums : Nat → Int64) : Option (Int64 × Int32 × Int32 × Int32 × Int32 × Int64 × Int32 × Int32 × (Nat → Int32) × (Nat → Int32) × (Nat → Int32) × (Nat → Int32) × (Nat → Int32) × (Nat → Int32) × (Nat → Int32) × (Nat → Int32) × (Nat → Int64)) :=
  if 100 ≤ v7 then
    bd1 (f_X7_lowest v5 o_all v4) fun r_3 =>
    some (r_3, o_level, o_noRings, o_noTones, o_noFuel, o_all, o_noPieces, o_noDrags, o_code, o_cellAt, o_courseAt, o_paceAt, o_turnsAt, o_slowAt, o_fuelAt, o_ringAt, o_sums)
  else
    chk (¬ (v7 < 0 ∨ 100 ≤ v7.toNatClampNeg)) <|
    if (lg_cmp (o_sums v7.toNatClampNeg) 0) ≤ 0 then
      f_X7_should_B110 k67 v1 v2 v3 v4 v7 v5 o_level o_noRings o_noTones o_noFuel o_pieces o_drags o_all o_noPieces o_noDrags o_sets o_ringFar o_ringTone o_currents o_warmths o_code o_cellAt o_courseAt o_paceAt o_turnsAt o_slowAt o_fuelAt o_ringAt o_pieceParts o_dragCell o_dragBy o_sums
    else
      bd1 (f_X7_driftTo v7 v2 v3 o_sets o_currents) fun r_4 =>
      if r_4 = v1 then
        chk (¬ (v7 < 0 ∨ 100 ≤ v7.toNatClampNeg)) <|
        f_X7_should_B111 k67 v1 v2 v3 v4 v7 (o_sums v7.toNatClampNeg) v5 o_level o_noRings o_noTones o_noFuel o_pieces o_drags o_all o_noPieces o_noDrags o_sets o_ringFar o_ringTone o_currents o_warmths o_code o_cellAt o_courseAt o_paceAt o_turnsAt o_slowAt o_fuelAt o_ringAt o_pieceParts o_dragCell o_dragBy o_sums
      else
        f_X7_should_B110 k67 v1 v2 v3 v4 v7 v5 o_level o_noRings o_noTones o_noFuel o_pieces o_drags o_all o_noPieces o_noDrags o_sets o_ringFar o_ringTone o_currents o_warmths o_code o_cellAt o_courseAt o_paceAt o_turnsAt o_slowAt o_fuelAt o_ringAt o_pieceParts o_dragCell o_dragBy o_sums
def f_X7_should_L67 : Nat → Int32 → Int32 → Int32 → Int32 → Int64 → Int32 → Int32 → Int32 → Int32 → Int32 → Int32 → Int32 → Int64 → Int32 → Int32 → (Nat → Int32) → (Nat → Int32) → (Nat → Int32) → (Nat → Int32) → (Nat → Int32) → (Nat → Int32) → (Nat → Int32) → (Nat → Int32) → (Nat → Int32) → (Nat → Int32) → (Nat → Int32) → (Nat → Int32) → (Nat → Int32) → (Nat → Int32) → (Nat → Int32) → (Nat → Int32) → (Nat → Int64) → Option (Int64 × Int32 × Int32 × Int32 × Int32 × Int64 × Int32 × Int32 × (Nat → Int32) × (Nat → Int32) × (Nat → Int32) × (Nat → Int32) × (Nat → Int32) × (Nat → Int32) × (Nat → Int32) × (Nat → Int32) × (Nat → Int64))
  | 0 => fun _ _ _ _ _ _ _ _ _ _ _ _ _ _ _ _ _ _ _ _ _ _ _ _ _ _ _ _ _ _ _ _ => none
  | n + 1 => f_X7_should_L67b (f_X7_should_L67 n)
def f_X7_should (x1 : Int32) (x2 : Int32) (x3 : Int32) (x4 : Int32) (o_level : Int32) (o_noRings : Int32) (o_noTones : Int32) (o_noFuel : Int32) (o_pieces : Int32) (o_drags : Int32) (o_all : Int64) (o_noPieces : Int32) (o_noDrags : Int32) (o_sets : Nat → Int32) (o_ringFar : Nat → Int32) (o_ringTone : Nat → Int32) (o_currents : Nat → Int32) (o_warmths : Nat → Int32) (o_code : Nat → Int32) (o_cellAt : Nat → Int32) (o_courseAt : Nat → Int32) (o_paceAt : Nat → Int32) (o_turnsAt : Nat → Int32) (o_slowAt : Nat → Int32) (o_fuelAt : Nat → Int32) (o_ringAt : Nat → Int32) (o_pieceParts : Nat → Int32) (o_dragCell : Nat → Int32) (o_dragBy : Nat → Int32) (o_sums : Nat → Int64) : Option (Int64 × Int32 × Int32 × Int32 × Int32 × Int64 × Int32 × Int32 × (Nat → Int32) × (Nat → Int32) × (Nat → Int32) × (Nat → Int32) × (Nat → Int32) × (Nat → Int32) × (Nat → Int32) × (Nat → Int32) × (Nat → Int64)) :=
  bd1 (f_X7_isCell x1) fun r_5 =>
  if r_5 = 0 then
    some ((-1), o_level, o_noRings, o_noTones, o_noFuel, o_all, o_noPieces, o_noDrags, o_code, o_cellAt, o_courseAt, o_paceAt, o_turnsAt, o_slowAt, o_fuelAt, o_ringAt, o_sums)
  else
    bd1 (f_X7_in x2.toInt64 0 24) fun r_6 =>
    if r_6 = 0 then
      some ((-1), o_level, o_noRings, o_noTones, o_noFuel, o_all, o_noPieces, o_noDrags, o_code, o_cellAt, o_courseAt, o_paceAt, o_turnsAt, o_slowAt, o_fuelAt, o_ringAt, o_sums)
    else
      bd1 (f_X7_in x3.toInt64 0 1) fun r_7 =>
      if r_7 = 0 then
        some ((-1), o_level, o_noRings, o_noTones, o_noFuel, o_all, o_noPieces, o_noDrags, o_code, o_cellAt, o_courseAt, o_paceAt, o_turnsAt, o_slowAt, o_fuelAt, o_ringAt, o_sums)
      else
        bd1 (f_X7_in x4.toInt64 0 1) fun r_8 =>
        if r_8 = 0 then
          some ((-1), o_level, o_noRings, o_noTones, o_noFuel, o_all, o_noPieces, o_noDrags, o_code, o_cellAt, o_courseAt, o_paceAt, o_turnsAt, o_slowAt, o_fuelAt, o_ringAt, o_sums)
        else
          bd16 (f_X7_endsAsTold o_level o_noRings o_noTones o_noFuel o_pieces o_drags o_all o_noPieces o_noDrags o_sets o_ringFar o_ringTone o_currents o_warmths o_code o_cellAt o_courseAt o_paceAt o_turnsAt o_slowAt o_fuelAt o_ringAt o_pieceParts o_dragCell o_dragBy o_sums) fun w_9 w_10 w_11 w_12 w_13 w_14 w_15 w_16 w_17 w_18 w_19 w_20 w_21 w_22 w_23 w_24 =>
          if (lg_cmp w_13 0) = 0 then
            some ((-4), w_9, w_10, w_11, w_12, w_13, w_14, w_15, w_16, w_17, w_18, w_19, w_20, w_21, w_22, w_23, w_24)
          else
            f_X7_should_L67 FU x1 x2 x3 x4 0 0 w_9 w_10 w_11 w_12 o_pieces o_drags w_13 w_14 w_15 o_sets o_ringFar o_ringTone o_currents o_warmths w_16 w_17 w_18 w_19 w_20 w_21 w_22 w_23 o_pieceParts o_dragCell o_dragBy w_24
abbrev rm_X7_should : Room := { frames := 6, cells := 0, slots := 0, locals := 148 }
set_option maxRecDepth 100000 in
set_option maxHeartbeats 4000000 in
theorem c_X7_should (l : Launch) (dC : Nat → ClassId) (dI : Nat → Nat → Nat) (cyI cyJ cyO : ClassId) (sz : Nat) (h_o a_o_sets a_o_ringFar a_o_ringTone a_o_currents a_o_warmths a_o_depths a_o_tape a_o_readFar a_o_readTone a_o_readSea a_o_code a_o_cellAt a_o_courseAt a_o_paceAt a_o_turnsAt a_o_slowAt a_o_fuelAt a_o_ringAt a_o_pieceParts a_o_dragCell a_o_dragBy a_o_sums a_o_shares a_o_keptFar a_o_image a_o_lanes a_o_sizes a_o_items a_o_movedItems : Nat) (o_taped : Int32) (o_at : Int32) (o_wrong : Int32) (o_level : Int32) (o_noRings : Int32) (o_noTones : Int32) (o_noFuel : Int32) (o_pieces : Int32) (o_drags : Int32) (o_all : Int64) (o_noPieces : Int32) (o_noDrags : Int32) (o_kept : Int32) (o_sets : Nat → Int32) (o_ringFar : Nat → Int32) (o_ringTone : Nat → Int32) (o_currents : Nat → Int32) (o_warmths : Nat → Int32) (o_code : Nat → Int32) (o_cellAt : Nat → Int32) (o_courseAt : Nat → Int32) (o_paceAt : Nat → Int32) (o_turnsAt : Nat → Int32) (o_slowAt : Nat → Int32) (o_fuelAt : Nat → Int32) (o_ringAt : Nat → Int32) (o_pieceParts : Nat → Int32) (o_dragCell : Nat → Int32) (o_dragBy : Nat → Int32) (o_sums : Nat → Int64) (x1 : Int32) (x2 : Int32) (x3 : Int32) (x4 : Int32) (post : (Int64 × Int32 × Int32 × Int32 × Int32 × Int64 × Int32 × Int32 × (Nat → Int32) × (Nat → Int32) × (Nat → Int32) × (Nat → Int32) × (Nat → Int32) × (Nat → Int32) × (Nat → Int32) × (Nat → Int32) × (Nat → Int64)) → Prop) (hf : okP (f_X7_should x1 x2 x3 x4 o_level o_noRings o_noTones o_noFuel o_pieces o_drags o_all o_noPieces o_noDrags o_sets o_ringFar o_ringTone o_currents o_warmths o_code o_cellAt o_courseAt o_paceAt o_turnsAt o_slowAt o_fuelAt o_ringAt o_pieceParts o_dragCell o_dragBy o_sums) post) : Cl l (dC, dI) (tyL cyI cyJ cyO) yX7_should wsX7_should rm_X7_should [.ref h_o, .int x1, .int x2, .int x3, .int x4] sz (W_X7_should cyI cyJ cyO h_o a_o_sets a_o_ringFar a_o_ringTone a_o_currents a_o_warmths a_o_depths a_o_tape a_o_readFar a_o_readTone a_o_readSea a_o_code a_o_cellAt a_o_courseAt a_o_paceAt a_o_turnsAt a_o_slowAt a_o_fuelAt a_o_ringAt a_o_pieceParts a_o_dragCell a_o_dragBy a_o_sums a_o_shares a_o_keptFar a_o_image a_o_lanes a_o_sizes a_o_items a_o_movedItems o_taped o_at o_wrong o_level o_noRings o_noTones o_noFuel o_pieces o_drags o_all o_noPieces o_noDrags o_kept o_sets o_ringFar o_ringTone o_currents o_warmths o_code o_cellAt o_courseAt o_paceAt o_turnsAt o_slowAt o_fuelAt o_ringAt o_pieceParts o_dragCell o_dragBy o_sums) zN (fun r u => post (r, u)) (fun u => (W_X7_should cyI cyJ cyO h_o a_o_sets a_o_ringFar a_o_ringTone a_o_currents a_o_warmths a_o_depths a_o_tape a_o_readFar a_o_readTone a_o_readSea a_o_code a_o_cellAt a_o_courseAt a_o_paceAt a_o_turnsAt a_o_slowAt a_o_fuelAt a_o_ringAt a_o_pieceParts a_o_dragCell a_o_dragBy a_o_sums a_o_shares a_o_keptFar a_o_image a_o_lanes a_o_sizes a_o_items a_o_movedItems o_taped o_at o_wrong u.1 u.2.1 u.2.2.1 u.2.2.2.1 o_pieces o_drags u.2.2.2.2.1 u.2.2.2.2.2.1 u.2.2.2.2.2.2.1 o_kept o_sets o_ringFar o_ringTone o_currents o_warmths u.2.2.2.2.2.2.2.1 u.2.2.2.2.2.2.2.2.1 u.2.2.2.2.2.2.2.2.2.1 u.2.2.2.2.2.2.2.2.2.2.1 u.2.2.2.2.2.2.2.2.2.2.2.1 u.2.2.2.2.2.2.2.2.2.2.2.2.1 u.2.2.2.2.2.2.2.2.2.2.2.2.2.1 u.2.2.2.2.2.2.2.2.2.2.2.2.2.2.1 o_pieceParts o_dragCell o_dragBy u.2.2.2.2.2.2.2.2.2.2.2.2.2.2.2)) := by
  refine Met.ofW (cc := cX7_should) (maxL := 8) (ret := (some .long)) (by decide) rfl ?_
  intro p e s m args below meth c s₁ B hml hv
  obtain ⟨rfl, hsz, hP, hK, hD0, hZ⟩ := hv
  have hx := B.exec
  have hb := B.bytes
  have hr := B.returns
  have hts := atoms_spec (ws := wsX7_should) B.pre
  have hown : s.vm.findClass RX7 = some m.cls := findClass_of_methodNamed B.named
  have hlocks := B.notSynchronized
  subst hsz
  have hD := hD0.self (sz := s.heap.size)
  generalize hAe : va_A (W_X7_should cyI cyJ cyO h_o a_o_sets a_o_ringFar a_o_ringTone a_o_currents a_o_warmths a_o_depths a_o_tape a_o_readFar a_o_readTone a_o_readSea a_o_code a_o_cellAt a_o_courseAt a_o_paceAt a_o_turnsAt a_o_slowAt a_o_fuelAt a_o_ringAt a_o_pieceParts a_o_dragCell a_o_dragBy a_o_sums a_o_shares a_o_keptFar a_o_image a_o_lanes a_o_sizes a_o_items a_o_movedItems o_taped o_at o_wrong o_level o_noRings o_noTones o_noFuel o_pieces o_drags o_all o_noPieces o_noDrags o_kept o_sets o_ringFar o_ringTone o_currents o_warmths o_code o_cellAt o_courseAt o_paceAt o_turnsAt o_slowAt o_fuelAt o_ringAt o_pieceParts o_dragCell o_dragBy o_sums) s.heap.size = A at hD hZ ⊢
  have hA : ∀ q : Nat, s.heap.size ≤ q → A q := fun q h => by rw [← hAe]; exact Or.inr h
  clear hAe hD0
  have hS : va_S A s.heap s.heap [] := va_S.rf
  have hl := lv_entry ([.ref h_o, .int x1, .int x2, .int x3, .int x4]) (n := 8) (Nat.le_of_ble_eq_true rfl)
  rw [lg_entry_eq]
  generalize (lg_sl ([.ref h_o, .int x1, .int x2, .int x3, .int x4]) ++ List.replicate (8 - (lg_sl ([.ref h_o, .int x1, .int x2, .int x3, .int x4])).length) Slot.unset).toArray = ls at hl ⊢
  have hl : lv_has ls 8 [(0, .ref h_o), (1, .int x1), (2, .int x2), (3, .int x3), (4, .int x4)] := hl
  refine kW (fun Q hQ => ?_)
  have hq0 := hts _ (List.mem_cons_of_mem _ q_737)
  have hi7 : ∀ w ∈ u_ws RX7 TX7 42, w ∈ wsX7_should := fun w h => List.mem_cons_of_mem _ (inX7 w h)
  have hq2 := hts _ (List.mem_cons_of_mem _ q_736)
  have hq3 := hts _ (List.mem_cons_of_mem _ q_858)
  have hq4 := hts _ (List.mem_cons_of_mem _ q_958)
  have hq5 := hts _ (List.mem_cons_of_mem _ q_999)
  have hw := hf
  have w67 : ∀ (n : Nat), ∀ (v1 : Int32) (v2 : Int32) (v3 : Int32) (v4 : Int32) (v5 : Int64) (v7 : Int32) (o_level : Int32) (o_noRings : Int32) (o_noTones : Int32) (o_noFuel : Int32) (o_all : Int64) (o_noPieces : Int32) (o_noDrags : Int32) (o_code : Nat → Int32) (o_cellAt : Nat → Int32) (o_courseAt : Nat → Int32) (o_paceAt : Nat → Int32) (o_turnsAt : Nat → Int32) (o_slowAt : Nat → Int32) (o_fuelAt : Nat → Int32) (o_ringAt : Nat → Int32) (o_sums : Nat → Int64) (H : Heap) (locs : List Loc), va_P (dC, dI) vwCl (W_X7_should cyI cyJ cyO h_o a_o_sets a_o_ringFar a_o_ringTone a_o_currents a_o_warmths a_o_depths a_o_tape a_o_readFar a_o_readTone a_o_readSea a_o_code a_o_cellAt a_o_courseAt a_o_paceAt a_o_turnsAt a_o_slowAt a_o_fuelAt a_o_ringAt a_o_pieceParts a_o_dragCell a_o_dragBy a_o_sums a_o_shares a_o_keptFar a_o_image a_o_lanes a_o_sizes a_o_items a_o_movedItems o_taped o_at o_wrong o_level o_noRings o_noTones o_noFuel o_pieces o_drags o_all o_noPieces o_noDrags o_kept o_sets o_ringFar o_ringTone o_currents o_warmths o_code o_cellAt o_courseAt o_paceAt o_turnsAt o_slowAt o_fuelAt o_ringAt o_pieceParts o_dragCell o_dragBy o_sums) H → va_D A (W_X7_should cyI cyJ cyO h_o a_o_sets a_o_ringFar a_o_ringTone a_o_currents a_o_warmths a_o_depths a_o_tape a_o_readFar a_o_readTone a_o_readSea a_o_code a_o_cellAt a_o_courseAt a_o_paceAt a_o_turnsAt a_o_slowAt a_o_fuelAt a_o_ringAt a_o_pieceParts a_o_dragCell a_o_dragBy a_o_sums a_o_shares a_o_keptFar a_o_image a_o_lanes a_o_sizes a_o_items a_o_movedItems o_taped o_at o_wrong o_level o_noRings o_noTones o_noFuel o_pieces o_drags o_all o_noPieces o_noDrags o_kept o_sets o_ringFar o_ringTone o_currents o_warmths o_code o_cellAt o_courseAt o_paceAt o_turnsAt o_slowAt o_fuelAt o_ringAt o_pieceParts o_dragCell o_dragBy o_sums) → va_S A s.heap H locs → ∀ (ls : Array Slot), lv_has ls 8 [(0, .ref h_o), (1, .int v1), (2, .int v2), (3, .int v3), (4, .int v4), (5, .long v5), (7, .int v7)] → okP (f_X7_should_L67 n v1 v2 v3 v4 v5 v7 o_level o_noRings o_noTones o_noFuel o_pieces o_drags o_all o_noPieces o_noDrags o_sets o_ringFar o_ringTone o_currents o_warmths o_code o_cellAt o_courseAt o_paceAt o_turnsAt o_slowAt o_fuelAt o_ringAt o_pieceParts o_dragCell o_dragBy o_sums) post → W p l e (headSpec wsX7_should rm_X7_should).room s m ([.ref h_o, .int x1, .int x2, .int x3, .int x4] : List Value).toArray below meth c H locs 0 0 Q (F0 m 67 ls []) := by
    intro n
    induction n with
    | zero =>
      intro v1 v2 v3 v4 v5 v7 o_level o_noRings o_noTones o_noFuel o_all o_noPieces o_noDrags o_code o_cellAt o_courseAt o_paceAt o_turnsAt o_slowAt o_fuelAt o_ringAt o_sums H locs hP hD hS ls hl hw
      exact (ok0 hw).elim
    | succ n67 ih67 =>
      have w111 : ∀ (v1 : Int32) (v2 : Int32) (v3 : Int32) (v4 : Int32) (v7 : Int32) (y0 : Int64) (y1 : Int64) (o_level : Int32) (o_noRings : Int32) (o_noTones : Int32) (o_noFuel : Int32) (o_all : Int64) (o_noPieces : Int32) (o_noDrags : Int32) (o_code : Nat → Int32) (o_cellAt : Nat → Int32) (o_courseAt : Nat → Int32) (o_paceAt : Nat → Int32) (o_turnsAt : Nat → Int32) (o_slowAt : Nat → Int32) (o_fuelAt : Nat → Int32) (o_ringAt : Nat → Int32) (o_sums : Nat → Int64) (H : Heap) (locs : List Loc), va_P (dC, dI) vwCl (W_X7_should cyI cyJ cyO h_o a_o_sets a_o_ringFar a_o_ringTone a_o_currents a_o_warmths a_o_depths a_o_tape a_o_readFar a_o_readTone a_o_readSea a_o_code a_o_cellAt a_o_courseAt a_o_paceAt a_o_turnsAt a_o_slowAt a_o_fuelAt a_o_ringAt a_o_pieceParts a_o_dragCell a_o_dragBy a_o_sums a_o_shares a_o_keptFar a_o_image a_o_lanes a_o_sizes a_o_items a_o_movedItems o_taped o_at o_wrong o_level o_noRings o_noTones o_noFuel o_pieces o_drags o_all o_noPieces o_noDrags o_kept o_sets o_ringFar o_ringTone o_currents o_warmths o_code o_cellAt o_courseAt o_paceAt o_turnsAt o_slowAt o_fuelAt o_ringAt o_pieceParts o_dragCell o_dragBy o_sums) H → va_D A (W_X7_should cyI cyJ cyO h_o a_o_sets a_o_ringFar a_o_ringTone a_o_currents a_o_warmths a_o_depths a_o_tape a_o_readFar a_o_readTone a_o_readSea a_o_code a_o_cellAt a_o_courseAt a_o_paceAt a_o_turnsAt a_o_slowAt a_o_fuelAt a_o_ringAt a_o_pieceParts a_o_dragCell a_o_dragBy a_o_sums a_o_shares a_o_keptFar a_o_image a_o_lanes a_o_sizes a_o_items a_o_movedItems o_taped o_at o_wrong o_level o_noRings o_noTones o_noFuel o_pieces o_drags o_all o_noPieces o_noDrags o_kept o_sets o_ringFar o_ringTone o_currents o_warmths o_code o_cellAt o_courseAt o_paceAt o_turnsAt o_slowAt o_fuelAt o_ringAt o_pieceParts o_dragCell o_dragBy o_sums) → va_S A s.heap H locs → ∀ (ls : Array Slot), lv_has ls 8 [(0, .ref h_o), (1, .int v1), (2, .int v2), (3, .int v3), (4, .int v4), (7, .int v7)] → okP (f_X7_should_B111 (f_X7_should_L67 n67) v1 v2 v3 v4 v7 y0 y1 o_level o_noRings o_noTones o_noFuel o_pieces o_drags o_all o_noPieces o_noDrags o_sets o_ringFar o_ringTone o_currents o_warmths o_code o_cellAt o_courseAt o_paceAt o_turnsAt o_slowAt o_fuelAt o_ringAt o_pieceParts o_dragCell o_dragBy o_sums) post → W p l e (headSpec wsX7_should rm_X7_should).room s m ([.ref h_o, .int x1, .int x2, .int x3, .int x4] : List Value).toArray below meth c H locs 0 0 Q (F0 m 111 ls [.long y0, .long y1]) := by
        intro v1 v2 v3 v4 v7 y0 y1 o_level o_noRings o_noTones o_noFuel o_all o_noPieces o_noDrags o_code o_cellAt o_courseAt o_paceAt o_turnsAt o_slowAt o_fuelAt o_ringAt o_sums H locs hP hD hS ls hl hw
        unfold f_X7_should_B111 at hw
        refine lv_ladd hx hb dX7_should_111 ?_
        refine lv_topl (fun x_1 ex_1 => ?_)
        replace hw := okN ex_1 hw
        clear ex_1
        refine lv_lstore (lv' := [(5, .long x_1), (0, .ref h_o), (1, .int v1), (2, .int v2), (3, .int v3), (4, .int v4), (7, .int v7)]) hx hb dX7_should_112 hl (by decide) rfl (fun ls hl => ?_)
        obtain ⟨x_2, ex_2⟩ : ∃ y : Int32, y = v7 + 1 := ⟨_, rfl⟩
        replace hw := okN ex_2 hw
        refine lv_iinc (v := x_2) (lv' := [(7, .int x_2), (5, .long x_1), (0, .ref h_o), (1, .int v1), (2, .int v2), (3, .int v3), (4, .int v4)]) hx hb dX7_should_114 hl (k := 6) rfl (by rw [ex_2]; rfl) (by decide) rfl (fun ls hl => ?_)
        clear ex_2
        refine lv_goto (tgt := 67) hx hb dX7_should_117 (by decide) ?_
        exact ih67 v1 v2 v3 v4 x_1 x_2 o_level o_noRings o_noTones o_noFuel o_all o_noPieces o_noDrags o_code o_cellAt o_courseAt o_paceAt o_turnsAt o_slowAt o_fuelAt o_ringAt o_sums _ _ hP hD hS _ (lv_sub hl [2, 3, 4, 5, 6, 1, 0] rfl) hw
      have w110 : ∀ (v1 : Int32) (v2 : Int32) (v3 : Int32) (v4 : Int32) (v7 : Int32) (y0 : Int64) (o_level : Int32) (o_noRings : Int32) (o_noTones : Int32) (o_noFuel : Int32) (o_all : Int64) (o_noPieces : Int32) (o_noDrags : Int32) (o_code : Nat → Int32) (o_cellAt : Nat → Int32) (o_courseAt : Nat → Int32) (o_paceAt : Nat → Int32) (o_turnsAt : Nat → Int32) (o_slowAt : Nat → Int32) (o_fuelAt : Nat → Int32) (o_ringAt : Nat → Int32) (o_sums : Nat → Int64) (H : Heap) (locs : List Loc), va_P (dC, dI) vwCl (W_X7_should cyI cyJ cyO h_o a_o_sets a_o_ringFar a_o_ringTone a_o_currents a_o_warmths a_o_depths a_o_tape a_o_readFar a_o_readTone a_o_readSea a_o_code a_o_cellAt a_o_courseAt a_o_paceAt a_o_turnsAt a_o_slowAt a_o_fuelAt a_o_ringAt a_o_pieceParts a_o_dragCell a_o_dragBy a_o_sums a_o_shares a_o_keptFar a_o_image a_o_lanes a_o_sizes a_o_items a_o_movedItems o_taped o_at o_wrong o_level o_noRings o_noTones o_noFuel o_pieces o_drags o_all o_noPieces o_noDrags o_kept o_sets o_ringFar o_ringTone o_currents o_warmths o_code o_cellAt o_courseAt o_paceAt o_turnsAt o_slowAt o_fuelAt o_ringAt o_pieceParts o_dragCell o_dragBy o_sums) H → va_D A (W_X7_should cyI cyJ cyO h_o a_o_sets a_o_ringFar a_o_ringTone a_o_currents a_o_warmths a_o_depths a_o_tape a_o_readFar a_o_readTone a_o_readSea a_o_code a_o_cellAt a_o_courseAt a_o_paceAt a_o_turnsAt a_o_slowAt a_o_fuelAt a_o_ringAt a_o_pieceParts a_o_dragCell a_o_dragBy a_o_sums a_o_shares a_o_keptFar a_o_image a_o_lanes a_o_sizes a_o_items a_o_movedItems o_taped o_at o_wrong o_level o_noRings o_noTones o_noFuel o_pieces o_drags o_all o_noPieces o_noDrags o_kept o_sets o_ringFar o_ringTone o_currents o_warmths o_code o_cellAt o_courseAt o_paceAt o_turnsAt o_slowAt o_fuelAt o_ringAt o_pieceParts o_dragCell o_dragBy o_sums) → va_S A s.heap H locs → ∀ (ls : Array Slot), lv_has ls 8 [(0, .ref h_o), (1, .int v1), (2, .int v2), (3, .int v3), (4, .int v4), (7, .int v7)] → okP (f_X7_should_B110 (f_X7_should_L67 n67) v1 v2 v3 v4 v7 y0 o_level o_noRings o_noTones o_noFuel o_pieces o_drags o_all o_noPieces o_noDrags o_sets o_ringFar o_ringTone o_currents o_warmths o_code o_cellAt o_courseAt o_paceAt o_turnsAt o_slowAt o_fuelAt o_ringAt o_pieceParts o_dragCell o_dragBy o_sums) post → W p l e (headSpec wsX7_should rm_X7_should).room s m ([.ref h_o, .int x1, .int x2, .int x3, .int x4] : List Value).toArray below meth c H locs 0 0 Q (F0 m 110 ls [.long y0]) := by
        intro v1 v2 v3 v4 v7 y0 o_level o_noRings o_noTones o_noFuel o_all o_noPieces o_noDrags o_code o_cellAt o_courseAt o_paceAt o_turnsAt o_slowAt o_fuelAt o_ringAt o_sums H locs hP hD hS ls hl hw
        unfold f_X7_should_B110 at hw
        refine lv_lconst (v := 0) hx hb dX7_should_110 (by decide) ?_
        exact w111 v1 v2 v3 v4 v7 0 y0 o_level o_noRings o_noTones o_noFuel o_all o_noPieces o_noDrags o_code o_cellAt o_courseAt o_paceAt o_turnsAt o_slowAt o_fuelAt o_ringAt o_sums _ _ hP hD hS _ (lv_sub hl [0, 1, 2, 3, 4, 5] rfl) hw
      intro v1 v2 v3 v4 v5 v7 o_level o_noRings o_noTones o_noFuel o_all o_noPieces o_noDrags o_code o_cellAt o_courseAt o_paceAt o_turnsAt o_slowAt o_fuelAt o_ringAt o_sums H locs hP hD hS ls hl hw
      replace hw : okP (f_X7_should_L67b (f_X7_should_L67 n67) v1 v2 v3 v4 v5 v7 o_level o_noRings o_noTones o_noFuel o_pieces o_drags o_all o_noPieces o_noDrags o_sets o_ringFar o_ringTone o_currents o_warmths o_code o_cellAt o_courseAt o_paceAt o_turnsAt o_slowAt o_fuelAt o_ringAt o_pieceParts o_dragCell o_dragBy o_sums) post := hw
      unfold f_X7_should_L67b at hw
      refine lv_iload hx hb dX7_should_67 (lv_at hl 6 rfl) ?_
      refine lv_bipush (v := 100) hx hb dX7_should_69 (by decide) ?_
      refine lv_icmp_ge (tgt := 120) hx hb dX7_should_71 (by decide) (fun c_3 => ?_) (fun c_3 => ?_)
      · replace hw := okT hw c_3
        clear c_3
        refine lv_lload hx hb dX7_should_120 (lv_at hl 5 rfl) ?_
        refine lv_aload_n hx hb dX7_should_122 rfl (lv_at hl 0 rfl) ?_
        refine va_get (D := (dC, dI)) (ci := 7) (v := .long o_all) (C := RX7) (T := TX7) (N := 42) hx hb hts hi7 hown hK hP 0 rfl rfl 31 (by decide) hq0 (fun _ h9 => h9) rfl dX7_should_123 ?_
        refine lv_iload hx hb dX7_should_126 (lv_at hl 4 rfl) ?_
        have hFc := va_free (wc := []) hD hS hA [] rfl
        refine kp_l (va_runS (As := [.long v5, .long o_all, .int v4]) (rest := []) ⟨hx, hb, hml, hown, hts⟩ (c_X7_lowest l dC dI cyI cyJ cyO H.size v5 o_all v4 _ (okb1 hw)) (va_cwS 3 hts (gdS (fun w h => List.mem_cons_of_mem _ h) q_1000 q_1001 q_8 q_1002) rfl rfl rfl (by decide +kernel) ⟨Nat.le_of_ble_eq_true rfl, Nat.le_of_ble_eq_true rfl⟩) (kpre zN_ok hK va_P0 va_D0 trivial hS hFc) rfl rfl hl.1 rfl (lv_room (Nat.le_of_ble_eq_true rfl)) dX7_should_128 ⟨Nat.le_of_ble_eq_true rfl, Nat.le_of_ble_eq_true rfl⟩) hP hD hS hFc (fun r_4 H locs hw hP hS => ?_)
        try dsimp only at hw
        clear hFc
        rw [hQ]
        exact W.lret (v := r_4) hx hb hr (fun t ht hW => ⟨⟨r_4, (o_level, o_noRings, o_noTones, o_noFuel, o_all, o_noPieces, o_noDrags, o_code, o_cellAt, o_courseAt, o_paceAt, o_turnsAt, o_slowAt, o_fuelAt, o_ringAt, o_sums), rfl, okS hw, by rw [ht]; exact hP, va_K.moved hW.alike hK, hD⟩, hS.F ht⟩) hS.2.2 dX7_should_131
      · replace hw := okF hw c_3
        clear c_3
        refine lv_lload hx hb dX7_should_74 (lv_at hl 5 rfl) ?_
        refine lv_aload_n hx hb dX7_should_76 rfl (lv_at hl 0 rfl) ?_
        refine va_get (D := (dC, dI)) (ci := 7) (v := .ref a_o_sums) (C := RX7) (T := TX7) (N := 42) hx hb hts hi7 hown hK hP 0 rfl rfl 30 (by decide) hq2 (fun _ h9 => h9) rfl dX7_should_77 ?_
        refine lv_iload hx hb dX7_should_80 (lv_at hl 6 rfl) ?_
        obtain ⟨h_5, hw⟩ := okC hw
        refine va_lald (i := v7) hx hb hK hP 17 1 rfl rfl h_5 dX7_should_82 ?_
        refine lv_lconst (v := 0) hx hb dX7_should_83 (by decide) ?_
        refine W.lcmp hx hb dX7_should_84 ?_
        refine lv_if_le (tgt := 110) hx hb dX7_should_85 (by decide) (fun c_6 => ?_) (fun c_6 => ?_)
        · replace hw := okT hw c_6
          clear c_6
          exact w110 v1 v2 v3 v4 v7 v5 o_level o_noRings o_noTones o_noFuel o_all o_noPieces o_noDrags o_code o_cellAt o_courseAt o_paceAt o_turnsAt o_slowAt o_fuelAt o_ringAt o_sums _ _ hP hD hS _ (lv_sub hl [0, 1, 2, 3, 4, 6] rfl) hw
        · replace hw := okF hw c_6
          clear c_6
          refine lv_aload_n hx hb dX7_should_88 rfl (lv_at hl 0 rfl) ?_
          refine lv_iload hx hb dX7_should_89 (lv_at hl 6 rfl) ?_
          refine lv_iload_n hx hb dX7_should_91 rfl (lv_at hl 2 rfl) ?_
          refine lv_iload_n hx hb dX7_should_92 rfl (lv_at hl 3 rfl) ?_
          have hPc := hP.sub (ws' := (W_X7_driftTo cyI cyJ cyO h_o a_o_sets a_o_ringFar a_o_ringTone a_o_currents a_o_warmths a_o_depths a_o_tape a_o_readFar a_o_readTone a_o_readSea a_o_code a_o_cellAt a_o_courseAt a_o_paceAt a_o_turnsAt a_o_slowAt a_o_fuelAt a_o_ringAt a_o_pieceParts a_o_dragCell a_o_dragBy a_o_sums a_o_shares a_o_keptFar a_o_image a_o_lanes a_o_sizes a_o_items a_o_movedItems o_taped o_at o_wrong o_level o_noRings o_noTones o_noFuel o_pieces o_drags o_all o_noPieces o_noDrags o_kept o_sets o_currents)) [0, 1, 4] rfl
          have hDc := hD.sub (ws' := (W_X7_driftTo cyI cyJ cyO h_o a_o_sets a_o_ringFar a_o_ringTone a_o_currents a_o_warmths a_o_depths a_o_tape a_o_readFar a_o_readTone a_o_readSea a_o_code a_o_cellAt a_o_courseAt a_o_paceAt a_o_turnsAt a_o_slowAt a_o_fuelAt a_o_ringAt a_o_pieceParts a_o_dragCell a_o_dragBy a_o_sums a_o_shares a_o_keptFar a_o_image a_o_lanes a_o_sizes a_o_items a_o_movedItems o_taped o_at o_wrong o_level o_noRings o_noTones o_noFuel o_pieces o_drags o_all o_noPieces o_noDrags o_kept o_sets o_currents)) [0, 1, 4] (by decide +kernel) rfl
          have hFc := va_free (wc := (W_X7_driftTo cyI cyJ cyO h_o a_o_sets a_o_ringFar a_o_ringTone a_o_currents a_o_warmths a_o_depths a_o_tape a_o_readFar a_o_readTone a_o_readSea a_o_code a_o_cellAt a_o_courseAt a_o_paceAt a_o_turnsAt a_o_slowAt a_o_fuelAt a_o_ringAt a_o_pieceParts a_o_dragCell a_o_dragBy a_o_sums a_o_shares a_o_keptFar a_o_image a_o_lanes a_o_sizes a_o_items a_o_movedItems o_taped o_at o_wrong o_level o_noRings o_noTones o_noFuel o_pieces o_drags o_all o_noPieces o_noDrags o_kept o_sets o_currents)) hD hS hA [0, 1, 4] rfl
          refine kc_i (wr := [(a_o_ringFar, .inl (cyI, 7, .inl o_ringFar)), (a_o_ringTone, .inl (cyI, 7, .inl o_ringTone)), (a_o_warmths, .inl (cyI, 200, .inl o_warmths)), (a_o_code, .inl (cyI, 7, .inl o_code)), (a_o_cellAt, .inl (cyI, 7, .inl o_cellAt)), (a_o_courseAt, .inl (cyI, 7, .inl o_courseAt)), (a_o_paceAt, .inl (cyI, 7, .inl o_paceAt)), (a_o_turnsAt, .inl (cyI, 7, .inl o_turnsAt)), (a_o_slowAt, .inl (cyI, 7, .inl o_slowAt)), (a_o_fuelAt, .inl (cyI, 7, .inl o_fuelAt)), (a_o_ringAt, .inl (cyI, 7, .inl o_ringAt)), (a_o_pieceParts, .inl (cyI, 20, .inl o_pieceParts)), (a_o_dragCell, .inl (cyI, 6, .inl o_dragCell)), (a_o_dragBy, .inl (cyI, 6, .inl o_dragBy)), (a_o_sums, .inl (cyJ, 100, .inr (.inl o_sums)))]) (va_runV (As := [.int v7, .int v2, .int v3]) (rest := [.long v5]) ⟨hx, hb, hml, hown, hts⟩ (c_X7_driftTo l dC dI cyI cyJ cyO H.size h_o a_o_sets a_o_ringFar a_o_ringTone a_o_currents a_o_warmths a_o_depths a_o_tape a_o_readFar a_o_readTone a_o_readSea a_o_code a_o_cellAt a_o_courseAt a_o_paceAt a_o_turnsAt a_o_slowAt a_o_fuelAt a_o_ringAt a_o_pieceParts a_o_dragCell a_o_dragBy a_o_sums a_o_shares a_o_keptFar a_o_image a_o_lanes a_o_sizes a_o_items a_o_movedItems o_taped o_at o_wrong o_level o_noRings o_noTones o_noFuel o_pieces o_drags o_all o_noPieces o_noDrags o_kept o_sets o_currents v7 v2 v3 _ (okb1 hw)) (cwV 3 hts (gdV (fun w h => List.mem_cons_of_mem _ h) q_963 q_965 qs_35 q_8 q_966) rfl rfl rfl (by decide +kernel) ⟨Nat.le_of_ble_eq_true rfl, Nat.le_of_ble_eq_true rfl⟩) ⟨(kpre zN_ok hK hPc hDc trivial hS hFc).1, va_recv hK hP (ci := 7) (q0 := 0) rfl rfl, (kpre zN_ok hK hPc hDc trivial hS hFc).2⟩ rfl rfl hl.1 rfl (lv_room (Nat.le_of_ble_eq_true rfl)) dX7_should_93 ⟨Nat.le_of_ble_eq_true rfl, Nat.le_of_ble_eq_true rfl⟩) hP hD hS hFc [0, 1, 4] [2, 3, 5, 6, 7, 8, 9, 10, 11, 12, 13, 14, 15, 16, 17] rfl rfl (by decide +kernel) (by decide +kernel) (fun r_7 u H locs hw hP hD hS => ?_)
          try dsimp only at hw
          have hP : va_P (dC, dI) vwCl (W_X7_should cyI cyJ cyO h_o a_o_sets a_o_ringFar a_o_ringTone a_o_currents a_o_warmths a_o_depths a_o_tape a_o_readFar a_o_readTone a_o_readSea a_o_code a_o_cellAt a_o_courseAt a_o_paceAt a_o_turnsAt a_o_slowAt a_o_fuelAt a_o_ringAt a_o_pieceParts a_o_dragCell a_o_dragBy a_o_sums a_o_shares a_o_keptFar a_o_image a_o_lanes a_o_sizes a_o_items a_o_movedItems o_taped o_at o_wrong o_level o_noRings o_noTones o_noFuel o_pieces o_drags o_all o_noPieces o_noDrags o_kept o_sets o_ringFar o_ringTone o_currents o_warmths o_code o_cellAt o_courseAt o_paceAt o_turnsAt o_slowAt o_fuelAt o_ringAt o_pieceParts o_dragCell o_dragBy o_sums) H := hP.sub [15, 16, 0, 1, 17, 2, 3, 4, 5, 6, 7, 8, 9, 10, 11, 12, 13, 14] rfl
          have hD : va_D A (W_X7_should cyI cyJ cyO h_o a_o_sets a_o_ringFar a_o_ringTone a_o_currents a_o_warmths a_o_depths a_o_tape a_o_readFar a_o_readTone a_o_readSea a_o_code a_o_cellAt a_o_courseAt a_o_paceAt a_o_turnsAt a_o_slowAt a_o_fuelAt a_o_ringAt a_o_pieceParts a_o_dragCell a_o_dragBy a_o_sums a_o_shares a_o_keptFar a_o_image a_o_lanes a_o_sizes a_o_items a_o_movedItems o_taped o_at o_wrong o_level o_noRings o_noTones o_noFuel o_pieces o_drags o_all o_noPieces o_noDrags o_kept o_sets o_ringFar o_ringTone o_currents o_warmths o_code o_cellAt o_courseAt o_paceAt o_turnsAt o_slowAt o_fuelAt o_ringAt o_pieceParts o_dragCell o_dragBy o_sums) := hD.sub [15, 16, 0, 1, 17, 2, 3, 4, 5, 6, 7, 8, 9, 10, 11, 12, 13, 14] (by decide +kernel) rfl
          clear hPc hDc hFc
          refine lv_iload_n hx hb dX7_should_96 rfl (lv_at hl 1 rfl) ?_
          refine lv_icmp_ne (tgt := 110) hx hb dX7_should_97 (by decide) (fun c_8 => ?_) (fun c_8 => ?_)
          · replace hw := okF hw c_8
            clear c_8
            exact w110 v1 v2 v3 v4 v7 v5 o_level o_noRings o_noTones o_noFuel o_all o_noPieces o_noDrags o_code o_cellAt o_courseAt o_paceAt o_turnsAt o_slowAt o_fuelAt o_ringAt o_sums _ _ hP hD hS _ (lv_sub hl [0, 1, 2, 3, 4, 6] rfl) hw
          · replace hw := okT hw c_8
            clear c_8
            refine lv_aload_n hx hb dX7_should_100 rfl (lv_at hl 0 rfl) ?_
            refine va_get (D := (dC, dI)) (ci := 7) (v := .ref a_o_sums) (C := RX7) (T := TX7) (N := 42) hx hb hts hi7 hown hK hP 0 rfl rfl 30 (by decide) hq2 (fun _ h9 => h9) rfl dX7_should_101 ?_
            refine lv_iload hx hb dX7_should_104 (lv_at hl 6 rfl) ?_
            obtain ⟨h_9, hw⟩ := okC hw
            refine va_lald (i := v7) hx hb hK hP 17 1 rfl rfl h_9 dX7_should_106 ?_
            refine lv_goto (tgt := 111) hx hb dX7_should_107 (by decide) ?_
            exact w111 v1 v2 v3 v4 v7 (o_sums v7.toNatClampNeg) v5 o_level o_noRings o_noTones o_noFuel o_all o_noPieces o_noDrags o_code o_cellAt o_courseAt o_paceAt o_turnsAt o_slowAt o_fuelAt o_ringAt o_sums _ _ hP hD hS _ (lv_sub hl [0, 1, 2, 3, 4, 6] rfl) hw
  unfold f_X7_should at hw
  have hP : va_P (dC, dI) vwCl (W_X7_should cyI cyJ cyO h_o a_o_sets a_o_ringFar a_o_ringTone a_o_currents a_o_warmths a_o_depths a_o_tape a_o_readFar a_o_readTone a_o_readSea a_o_code a_o_cellAt a_o_courseAt a_o_paceAt a_o_turnsAt a_o_slowAt a_o_fuelAt a_o_ringAt a_o_pieceParts a_o_dragCell a_o_dragBy a_o_sums a_o_shares a_o_keptFar a_o_image a_o_lanes a_o_sizes a_o_items a_o_movedItems o_taped o_at o_wrong o_level o_noRings o_noTones o_noFuel o_pieces o_drags o_all o_noPieces o_noDrags o_kept o_sets o_ringFar o_ringTone o_currents o_warmths o_code o_cellAt o_courseAt o_paceAt o_turnsAt o_slowAt o_fuelAt o_ringAt o_pieceParts o_dragCell o_dragBy o_sums) s.heap := hP
  obtain ⟨H, hH⟩ : ∃ H, H = s.heap := ⟨_, rfl⟩
  obtain ⟨locs, hlo⟩ : ∃ x : List Loc, x = [] := ⟨_, rfl⟩
  have hP : va_P (dC, dI) vwCl (W_X7_should cyI cyJ cyO h_o a_o_sets a_o_ringFar a_o_ringTone a_o_currents a_o_warmths a_o_depths a_o_tape a_o_readFar a_o_readTone a_o_readSea a_o_code a_o_cellAt a_o_courseAt a_o_paceAt a_o_turnsAt a_o_slowAt a_o_fuelAt a_o_ringAt a_o_pieceParts a_o_dragCell a_o_dragBy a_o_sums a_o_shares a_o_keptFar a_o_image a_o_lanes a_o_sizes a_o_items a_o_movedItems o_taped o_at o_wrong o_level o_noRings o_noTones o_noFuel o_pieces o_drags o_all o_noPieces o_noDrags o_kept o_sets o_ringFar o_ringTone o_currents o_warmths o_code o_cellAt o_courseAt o_paceAt o_turnsAt o_slowAt o_fuelAt o_ringAt o_pieceParts o_dragCell o_dragBy o_sums) H := by rw [hH]; exact hP
  have hS : va_S A s.heap H locs := by rw [hH, hlo]; exact hS
  refine kH hH hlo ?_
  clear hH hlo
  refine lv_iload_n hx hb dX7_should_0 rfl (lv_at hl 1 rfl) ?_
  have hFc := va_free (wc := []) hD hS hA [] rfl
  refine kp_i (va_runS (As := [.int x1]) (rest := []) ⟨hx, hb, hml, hown, hts⟩ (c_X7_isCell l dC dI cyI cyJ cyO H.size x1 _ (okb1 hw)) (va_cwS 1 hts (gdS (fun w h => List.mem_cons_of_mem _ h) q_845 q_846 q_8 q_847) rfl rfl rfl (by decide +kernel) ⟨Nat.le_of_ble_eq_true rfl, Nat.le_of_ble_eq_true rfl⟩) (kpre zN_ok hK va_P0 va_D0 trivial hS hFc) rfl rfl hl.1 rfl (lv_room (Nat.le_of_ble_eq_true rfl)) dX7_should_1 ⟨Nat.le_of_ble_eq_true rfl, Nat.le_of_ble_eq_true rfl⟩) hP hD hS hFc (fun r_10 H locs hw hP hS => ?_)
  try dsimp only at hw
  clear hFc
  refine lv_if_eq (tgt := 40) hx hb dX7_should_4 (by decide) (fun c_11 => ?_) (fun c_11 => ?_)
  · replace hw := okT hw c_11
    clear c_11
    refine lv_ldc2 (v := (-1)) hx hb hown hq3 dX7_should_40 ?_
    rw [hQ]
    exact W.lret (v := (-1)) hx hb hr (fun t ht hW => ⟨⟨(-1), (o_level, o_noRings, o_noTones, o_noFuel, o_all, o_noPieces, o_noDrags, o_code, o_cellAt, o_courseAt, o_paceAt, o_turnsAt, o_slowAt, o_fuelAt, o_ringAt, o_sums), rfl, okS hw, by rw [ht]; exact hP, va_K.moved hW.alike hK, hD⟩, hS.F ht⟩) hS.2.2 dX7_should_43
  · replace hw := okF hw c_11
    clear c_11
    refine lv_iload_n hx hb dX7_should_7 rfl (lv_at hl 2 rfl) ?_
    refine lv_i2l (v := x2.toInt64) hx hb dX7_should_8 rfl ?_
    refine lv_lconst (v := 0) hx hb dX7_should_9 (by decide) ?_
    refine lv_ldc2 (v := 24) hx hb hown hq4 dX7_should_10 ?_
    have hFc := va_free (wc := []) hD hS hA [] rfl
    refine kp_i (va_runS (As := [.long x2.toInt64, .long 0, .long 24]) (rest := []) ⟨hx, hb, hml, hown, hts⟩ (c_X7_in l dC dI cyI cyJ cyO H.size x2.toInt64 0 24 _ (okb1 hw)) (va_cwS 3 hts (gdS (fun w h => List.mem_cons_of_mem _ h) q_838 q_839 q_8 q_840) rfl rfl rfl (by decide +kernel) ⟨Nat.le_of_ble_eq_true rfl, Nat.le_of_ble_eq_true rfl⟩) (kpre zN_ok hK va_P0 va_D0 trivial hS hFc) rfl rfl hl.1 rfl (lv_room (Nat.le_of_ble_eq_true rfl)) dX7_should_13 ⟨Nat.le_of_ble_eq_true rfl, Nat.le_of_ble_eq_true rfl⟩) hP hD hS hFc (fun r_12 H locs hw hP hS => ?_)
    try dsimp only at hw
    clear hFc
    refine lv_if_eq (tgt := 40) hx hb dX7_should_16 (by decide) (fun c_13 => ?_) (fun c_13 => ?_)
    · replace hw := okT hw c_13
      clear c_13
      refine lv_ldc2 (v := (-1)) hx hb hown hq3 dX7_should_40 ?_
      rw [hQ]
      exact W.lret (v := (-1)) hx hb hr (fun t ht hW => ⟨⟨(-1), (o_level, o_noRings, o_noTones, o_noFuel, o_all, o_noPieces, o_noDrags, o_code, o_cellAt, o_courseAt, o_paceAt, o_turnsAt, o_slowAt, o_fuelAt, o_ringAt, o_sums), rfl, okS hw, by rw [ht]; exact hP, va_K.moved hW.alike hK, hD⟩, hS.F ht⟩) hS.2.2 dX7_should_43
    · replace hw := okF hw c_13
      clear c_13
      refine lv_iload_n hx hb dX7_should_19 rfl (lv_at hl 3 rfl) ?_
      refine lv_i2l (v := x3.toInt64) hx hb dX7_should_20 rfl ?_
      refine lv_lconst (v := 0) hx hb dX7_should_21 (by decide) ?_
      refine lv_lconst (v := 1) hx hb dX7_should_22 (by decide) ?_
      have hFc := va_free (wc := []) hD hS hA [] rfl
      refine kp_i (va_runS (As := [.long x3.toInt64, .long 0, .long 1]) (rest := []) ⟨hx, hb, hml, hown, hts⟩ (c_X7_in l dC dI cyI cyJ cyO H.size x3.toInt64 0 1 _ (okb1 hw)) (va_cwS 3 hts (gdS (fun w h => List.mem_cons_of_mem _ h) q_838 q_839 q_8 q_840) rfl rfl rfl (by decide +kernel) ⟨Nat.le_of_ble_eq_true rfl, Nat.le_of_ble_eq_true rfl⟩) (kpre zN_ok hK va_P0 va_D0 trivial hS hFc) rfl rfl hl.1 rfl (lv_room (Nat.le_of_ble_eq_true rfl)) dX7_should_23 ⟨Nat.le_of_ble_eq_true rfl, Nat.le_of_ble_eq_true rfl⟩) hP hD hS hFc (fun r_14 H locs hw hP hS => ?_)
      try dsimp only at hw
      clear hFc
      refine lv_if_eq (tgt := 40) hx hb dX7_should_26 (by decide) (fun c_15 => ?_) (fun c_15 => ?_)
      · replace hw := okT hw c_15
        clear c_15
        refine lv_ldc2 (v := (-1)) hx hb hown hq3 dX7_should_40 ?_
        rw [hQ]
        exact W.lret (v := (-1)) hx hb hr (fun t ht hW => ⟨⟨(-1), (o_level, o_noRings, o_noTones, o_noFuel, o_all, o_noPieces, o_noDrags, o_code, o_cellAt, o_courseAt, o_paceAt, o_turnsAt, o_slowAt, o_fuelAt, o_ringAt, o_sums), rfl, okS hw, by rw [ht]; exact hP, va_K.moved hW.alike hK, hD⟩, hS.F ht⟩) hS.2.2 dX7_should_43
      · replace hw := okF hw c_15
        clear c_15
        refine lv_iload hx hb dX7_should_29 (lv_at hl 4 rfl) ?_
        refine lv_i2l (v := x4.toInt64) hx hb dX7_should_31 rfl ?_
        refine lv_lconst (v := 0) hx hb dX7_should_32 (by decide) ?_
        refine lv_lconst (v := 1) hx hb dX7_should_33 (by decide) ?_
        have hFc := va_free (wc := []) hD hS hA [] rfl
        refine kp_i (va_runS (As := [.long x4.toInt64, .long 0, .long 1]) (rest := []) ⟨hx, hb, hml, hown, hts⟩ (c_X7_in l dC dI cyI cyJ cyO H.size x4.toInt64 0 1 _ (okb1 hw)) (va_cwS 3 hts (gdS (fun w h => List.mem_cons_of_mem _ h) q_838 q_839 q_8 q_840) rfl rfl rfl (by decide +kernel) ⟨Nat.le_of_ble_eq_true rfl, Nat.le_of_ble_eq_true rfl⟩) (kpre zN_ok hK va_P0 va_D0 trivial hS hFc) rfl rfl hl.1 rfl (lv_room (Nat.le_of_ble_eq_true rfl)) dX7_should_34 ⟨Nat.le_of_ble_eq_true rfl, Nat.le_of_ble_eq_true rfl⟩) hP hD hS hFc (fun r_16 H locs hw hP hS => ?_)
        try dsimp only at hw
        clear hFc
        refine lv_if_ne (tgt := 44) hx hb dX7_should_37 (by decide) (fun c_17 => ?_) (fun c_17 => ?_)
        · replace hw := okF hw c_17
          clear c_17
          refine lv_aload_n hx hb dX7_should_44 rfl (lv_at hl 0 rfl) ?_
          have hPc := hP.sub (ws' := (W_X7_endsAsTold cyI cyJ cyO h_o a_o_sets a_o_ringFar a_o_ringTone a_o_currents a_o_warmths a_o_depths a_o_tape a_o_readFar a_o_readTone a_o_readSea a_o_code a_o_cellAt a_o_courseAt a_o_paceAt a_o_turnsAt a_o_slowAt a_o_fuelAt a_o_ringAt a_o_pieceParts a_o_dragCell a_o_dragBy a_o_sums a_o_shares a_o_keptFar a_o_image a_o_lanes a_o_sizes a_o_items a_o_movedItems o_taped o_at o_wrong o_level o_noRings o_noTones o_noFuel o_pieces o_drags o_all o_noPieces o_noDrags o_kept o_sets o_ringFar o_ringTone o_currents o_warmths o_code o_cellAt o_courseAt o_paceAt o_turnsAt o_slowAt o_fuelAt o_ringAt o_pieceParts o_dragCell o_dragBy o_sums)) [0, 1, 2, 3, 4, 5, 6, 7, 8, 9, 10, 11, 12, 13, 14, 15, 16, 17] rfl
          have hDc := hD.sub (ws' := (W_X7_endsAsTold cyI cyJ cyO h_o a_o_sets a_o_ringFar a_o_ringTone a_o_currents a_o_warmths a_o_depths a_o_tape a_o_readFar a_o_readTone a_o_readSea a_o_code a_o_cellAt a_o_courseAt a_o_paceAt a_o_turnsAt a_o_slowAt a_o_fuelAt a_o_ringAt a_o_pieceParts a_o_dragCell a_o_dragBy a_o_sums a_o_shares a_o_keptFar a_o_image a_o_lanes a_o_sizes a_o_items a_o_movedItems o_taped o_at o_wrong o_level o_noRings o_noTones o_noFuel o_pieces o_drags o_all o_noPieces o_noDrags o_kept o_sets o_ringFar o_ringTone o_currents o_warmths o_code o_cellAt o_courseAt o_paceAt o_turnsAt o_slowAt o_fuelAt o_ringAt o_pieceParts o_dragCell o_dragBy o_sums)) [0, 1, 2, 3, 4, 5, 6, 7, 8, 9, 10, 11, 12, 13, 14, 15, 16, 17] (by decide +kernel) rfl
          have hFc := va_free (wc := (W_X7_endsAsTold cyI cyJ cyO h_o a_o_sets a_o_ringFar a_o_ringTone a_o_currents a_o_warmths a_o_depths a_o_tape a_o_readFar a_o_readTone a_o_readSea a_o_code a_o_cellAt a_o_courseAt a_o_paceAt a_o_turnsAt a_o_slowAt a_o_fuelAt a_o_ringAt a_o_pieceParts a_o_dragCell a_o_dragBy a_o_sums a_o_shares a_o_keptFar a_o_image a_o_lanes a_o_sizes a_o_items a_o_movedItems o_taped o_at o_wrong o_level o_noRings o_noTones o_noFuel o_pieces o_drags o_all o_noPieces o_noDrags o_kept o_sets o_ringFar o_ringTone o_currents o_warmths o_code o_cellAt o_courseAt o_paceAt o_turnsAt o_slowAt o_fuelAt o_ringAt o_pieceParts o_dragCell o_dragBy o_sums)) hD hS hA [0, 1, 2, 3, 4, 5, 6, 7, 8, 9, 10, 11, 12, 13, 14, 15, 16, 17] rfl
          refine kc_v (wr := []) (va_runV (As := []) (rest := []) ⟨hx, hb, hml, hown, hts⟩ (c_X7_endsAsTold l dC dI cyI cyJ cyO H.size h_o a_o_sets a_o_ringFar a_o_ringTone a_o_currents a_o_warmths a_o_depths a_o_tape a_o_readFar a_o_readTone a_o_readSea a_o_code a_o_cellAt a_o_courseAt a_o_paceAt a_o_turnsAt a_o_slowAt a_o_fuelAt a_o_ringAt a_o_pieceParts a_o_dragCell a_o_dragBy a_o_sums a_o_shares a_o_keptFar a_o_image a_o_lanes a_o_sizes a_o_items a_o_movedItems o_taped o_at o_wrong o_level o_noRings o_noTones o_noFuel o_pieces o_drags o_all o_noPieces o_noDrags o_kept o_sets o_ringFar o_ringTone o_currents o_warmths o_code o_cellAt o_courseAt o_paceAt o_turnsAt o_slowAt o_fuelAt o_ringAt o_pieceParts o_dragCell o_dragBy o_sums _ (okb16 hw)) (cwV 0 hts (gdV (fun w h => List.mem_cons_of_mem _ h) q_991 q_993 qs_38 q_8 q_994) rfl rfl rfl (by decide +kernel) ⟨Nat.le_of_ble_eq_true rfl, Nat.le_of_ble_eq_true rfl⟩) ⟨(kpre zN_ok hK hPc hDc trivial hS hFc).1, va_recv hK hP (ci := 7) (q0 := 0) rfl rfl, (kpre zN_ok hK hPc hDc trivial hS hFc).2⟩ rfl rfl hl.1 rfl (lv_room (Nat.le_of_ble_eq_true rfl)) dX7_should_45 ⟨Nat.le_of_ble_eq_true rfl, Nat.le_of_ble_eq_true rfl⟩) hP hD hS hFc [0, 1, 2, 3, 4, 5, 6, 7, 8, 9, 10, 11, 12, 13, 14, 15, 16, 17] [] rfl rfl (by decide +kernel) (by decide +kernel) (fun u H locs hw hP hD hS => ?_)
          obtain ⟨w_18, w_19, w_20, w_21, w_22, w_23, w_24, w_25, w_26, w_27, w_28, w_29, w_30, w_31, w_32, w_33⟩ := u
          try dsimp only at hw
          have hP : va_P (dC, dI) vwCl (W_X7_should cyI cyJ cyO h_o a_o_sets a_o_ringFar a_o_ringTone a_o_currents a_o_warmths a_o_depths a_o_tape a_o_readFar a_o_readTone a_o_readSea a_o_code a_o_cellAt a_o_courseAt a_o_paceAt a_o_turnsAt a_o_slowAt a_o_fuelAt a_o_ringAt a_o_pieceParts a_o_dragCell a_o_dragBy a_o_sums a_o_shares a_o_keptFar a_o_image a_o_lanes a_o_sizes a_o_items a_o_movedItems o_taped o_at o_wrong w_18 w_19 w_20 w_21 o_pieces o_drags w_22 w_23 w_24 o_kept o_sets o_ringFar o_ringTone o_currents o_warmths w_25 w_26 w_27 w_28 w_29 w_30 w_31 w_32 o_pieceParts o_dragCell o_dragBy w_33) H := hP.sub [0, 1, 2, 3, 4, 5, 6, 7, 8, 9, 10, 11, 12, 13, 14, 15, 16, 17] rfl
          have hD : va_D A (W_X7_should cyI cyJ cyO h_o a_o_sets a_o_ringFar a_o_ringTone a_o_currents a_o_warmths a_o_depths a_o_tape a_o_readFar a_o_readTone a_o_readSea a_o_code a_o_cellAt a_o_courseAt a_o_paceAt a_o_turnsAt a_o_slowAt a_o_fuelAt a_o_ringAt a_o_pieceParts a_o_dragCell a_o_dragBy a_o_sums a_o_shares a_o_keptFar a_o_image a_o_lanes a_o_sizes a_o_items a_o_movedItems o_taped o_at o_wrong w_18 w_19 w_20 w_21 o_pieces o_drags w_22 w_23 w_24 o_kept o_sets o_ringFar o_ringTone o_currents o_warmths w_25 w_26 w_27 w_28 w_29 w_30 w_31 w_32 o_pieceParts o_dragCell o_dragBy w_33) := hD.sub [0, 1, 2, 3, 4, 5, 6, 7, 8, 9, 10, 11, 12, 13, 14, 15, 16, 17] (by decide +kernel) rfl
          clear hPc hDc hFc
          refine lv_aload_n hx hb dX7_should_48 rfl (lv_at hl 0 rfl) ?_
          refine va_get (D := (dC, dI)) (ci := 7) (v := .long w_22) (C := RX7) (T := TX7) (N := 42) hx hb hts hi7 hown hK hP 0 rfl rfl 31 (by decide) hq0 (fun _ h9 => h9) rfl dX7_should_49 ?_
          refine lv_lconst (v := 0) hx hb dX7_should_52 (by decide) ?_
          refine W.lcmp hx hb dX7_should_53 ?_
          refine lv_if_ne (tgt := 61) hx hb dX7_should_54 (by decide) (fun c_34 => ?_) (fun c_34 => ?_)
          · replace hw := okF hw c_34
            clear c_34
            refine lv_lconst (v := 0) hx hb dX7_should_61 (by decide) ?_
            refine lv_lstore (lv' := [(5, .long 0), (0, .ref h_o), (1, .int x1), (2, .int x2), (3, .int x3), (4, .int x4)]) hx hb dX7_should_62 hl (by decide) rfl (fun ls hl => ?_)
            refine lv_iconst (v := 0) hx hb dX7_should_64 (by decide) ?_
            refine lv_istore (lv' := [(7, .int 0), (5, .long 0), (0, .ref h_o), (1, .int x1), (2, .int x2), (3, .int x3), (4, .int x4)]) hx hb dX7_should_65 hl (by decide) rfl (fun ls hl => ?_)
            exact w67 FU x1 x2 x3 x4 0 0 w_18 w_19 w_20 w_21 w_22 w_23 w_24 w_25 w_26 w_27 w_28 w_29 w_30 w_31 w_32 w_33 _ _ hP hD hS _ (lv_sub hl [2, 3, 4, 5, 6, 1, 0] rfl) hw
          · replace hw := okT hw c_34
            clear c_34
            refine lv_ldc2 (v := (-4)) hx hb hown hq5 dX7_should_57 ?_
            rw [hQ]
            exact W.lret (v := (-4)) hx hb hr (fun t ht hW => ⟨⟨(-4), (w_18, w_19, w_20, w_21, w_22, w_23, w_24, w_25, w_26, w_27, w_28, w_29, w_30, w_31, w_32, w_33), rfl, okS hw, by rw [ht]; exact hP, va_K.moved hW.alike hK, hD⟩, hS.F ht⟩) hS.2.2 dX7_should_60
        · replace hw := okT hw c_17
          clear c_17
          refine lv_ldc2 (v := (-1)) hx hb hown hq3 dX7_should_40 ?_
          rw [hQ]
          exact W.lret (v := (-1)) hx hb hr (fun t ht hW => ⟨⟨(-1), (o_level, o_noRings, o_noTones, o_noFuel, o_all, o_noPieces, o_noDrags, o_code, o_cellAt, o_courseAt, o_paceAt, o_turnsAt, o_slowAt, o_fuelAt, o_ringAt, o_sums), rfl, okS hw, by rw [ht]; exact hP, va_K.moved hW.alike hK, hD⟩, hS.F ht⟩) hS.2.2 dX7_should_43
/-! ===== X7_isSheet ===== -/
theorem dX7_isSheet_0 : decode cX7_isSheet 0 = .ok (.iload_n 0, 1) := by decide +kernel
theorem dX7_isSheet_1 : decode cX7_isSheet 1 = .ok (.i2l, 1) := by decide +kernel
theorem dX7_isSheet_2 : decode cX7_isSheet 2 = .ok (.lconst 0, 1) := by decide +kernel
theorem dX7_isSheet_3 : decode cX7_isSheet 3 = .ok (.ldc2_w 283, 3) := by decide +kernel
theorem dX7_isSheet_6 : decode cX7_isSheet 6 = .ok (.invokestatic 100, 3) := by decide +kernel
theorem dX7_isSheet_9 : decode cX7_isSheet 9 = .ok (.ireturn, 1) := by decide +kernel
abbrev W_X7_isSheet (cyI cyJ cyO : ClassId) : va_W := []
def f_X7_isSheet (x1 : Int32) : Option (Int32) :=
  bd1 (f_X7_in x1.toInt64 0 3) fun r_1 =>
  chk (r_1 = 0 ∨ r_1 = 1) <|
  some r_1
abbrev rm_X7_isSheet : Room := { frames := 1, cells := 0, slots := 0, locals := 25 }
set_option maxRecDepth 100000 in
set_option maxHeartbeats 4000000 in
theorem c_X7_isSheet (l : Launch) (dC : Nat → ClassId) (dI : Nat → Nat → Nat) (cyI cyJ cyO : ClassId) (sz : Nat) (x1 : Int32) (post : Int32 → Prop) (hf : okP (f_X7_isSheet x1) post) : Ci l (dC, dI) (tyL cyI cyJ cyO) yX7_isSheet wsX7_isSheet rm_X7_isSheet [.int x1] sz (W_X7_isSheet cyI cyJ cyO) zN (fun r (_ : Unit) => post r) (fun _ => (W_X7_isSheet cyI cyJ cyO)) := by
  refine Met.ofW (cc := cX7_isSheet) (maxL := 1) (ret := (some .boolean)) (by decide) rfl ?_
  intro p e s m args below meth c s₁ B hml hv
  obtain ⟨rfl, hsz, hP, hK, hD0, hZ⟩ := hv
  have hx := B.exec
  have hb := B.bytes
  have hr := B.returns
  have hts := atoms_spec (ws := wsX7_isSheet) B.pre
  have hown : s.vm.findClass RX7 = some m.cls := findClass_of_methodNamed B.named
  have hlocks := B.notSynchronized
  subst hsz
  have hD := hD0.self (sz := s.heap.size)
  generalize hAe : va_A (W_X7_isSheet cyI cyJ cyO) s.heap.size = A at hD hZ ⊢
  have hA : ∀ q : Nat, s.heap.size ≤ q → A q := fun q h => by rw [← hAe]; exact Or.inr h
  clear hAe hD0
  have hS : va_S A s.heap s.heap [] := va_S.rf
  have hl := lv_entry ([.int x1]) (n := 1) (Nat.le_of_ble_eq_true rfl)
  rw [lg_entry_eq]
  generalize (lg_sl ([.int x1]) ++ List.replicate (1 - (lg_sl ([.int x1])).length) Slot.unset).toArray = ls at hl ⊢
  have hl : lv_has ls 1 [(0, .int x1)] := hl
  refine kW (fun Q hQ => ?_)
  have hq0 := hts _ (List.mem_cons_of_mem _ q_1049)
  have hw := hf
  unfold f_X7_isSheet at hw
  have hP : va_P (dC, dI) vwCl (W_X7_isSheet cyI cyJ cyO) s.heap := hP
  obtain ⟨H, hH⟩ : ∃ H, H = s.heap := ⟨_, rfl⟩
  obtain ⟨locs, hlo⟩ : ∃ x : List Loc, x = [] := ⟨_, rfl⟩
  have hP : va_P (dC, dI) vwCl (W_X7_isSheet cyI cyJ cyO) H := by rw [hH]; exact hP
  have hS : va_S A s.heap H locs := by rw [hH, hlo]; exact hS
  refine kH hH hlo ?_
  clear hH hlo
  refine lv_iload_n hx hb dX7_isSheet_0 rfl (lv_at hl 0 rfl) ?_
  refine lv_i2l (v := x1.toInt64) hx hb dX7_isSheet_1 rfl ?_
  refine lv_lconst (v := 0) hx hb dX7_isSheet_2 (by decide) ?_
  refine lv_ldc2 (v := 3) hx hb hown hq0 dX7_isSheet_3 ?_
  have hFc := va_free (wc := []) hD hS hA [] rfl
  refine kp_i (va_runS (As := [.long x1.toInt64, .long 0, .long 3]) (rest := []) ⟨hx, hb, hml, hown, hts⟩ (c_X7_in l dC dI cyI cyJ cyO H.size x1.toInt64 0 3 _ (okb1 hw)) (va_cwS 3 hts (gdS (fun w h => List.mem_cons_of_mem _ h) q_838 q_839 q_8 q_840) rfl rfl rfl (by decide +kernel) ⟨Nat.le_of_ble_eq_true rfl, Nat.le_of_ble_eq_true rfl⟩) (kpre zN_ok hK va_P0 va_D0 trivial hS hFc) rfl rfl hl.1 rfl (lv_room (Nat.le_of_ble_eq_true rfl)) dX7_isSheet_6 ⟨Nat.le_of_ble_eq_true rfl, Nat.le_of_ble_eq_true rfl⟩) hP hD hS hFc (fun r_1 H locs hw hP hS => ?_)
  try dsimp only at hw
  clear hFc
  obtain ⟨h_2, hw⟩ := okC hw
  rw [hQ]
  exact W.zret (v := r_1) hx hb hr (nbZ h_2) (fun t ht hW => ⟨⟨r_1, (), rfl, okS hw, by rw [ht]; exact hP, va_K.moved hW.alike hK, hD⟩, hS.F ht⟩) hS.2.2 dX7_isSheet_9
/-! ===== X7_isLane ===== -/
theorem dX7_isLane_0 : decode cX7_isLane 0 = .ok (.iload_n 0, 1) := by decide +kernel
theorem dX7_isLane_1 : decode cX7_isLane 1 = .ok (.i2l, 1) := by decide +kernel
theorem dX7_isLane_2 : decode cX7_isLane 2 = .ok (.lconst 0, 1) := by decide +kernel
theorem dX7_isLane_3 : decode cX7_isLane 3 = .ok (.ldc2_w 128, 3) := by decide +kernel
theorem dX7_isLane_6 : decode cX7_isLane 6 = .ok (.invokestatic 100, 3) := by decide +kernel
theorem dX7_isLane_9 : decode cX7_isLane 9 = .ok (.ireturn, 1) := by decide +kernel
abbrev W_X7_isLane (cyI cyJ cyO : ClassId) : va_W := []
def f_X7_isLane (x1 : Int32) : Option (Int32) :=
  bd1 (f_X7_in x1.toInt64 0 2) fun r_1 =>
  chk (r_1 = 0 ∨ r_1 = 1) <|
  some r_1
abbrev rm_X7_isLane : Room := { frames := 1, cells := 0, slots := 0, locals := 25 }
set_option maxRecDepth 100000 in
set_option maxHeartbeats 4000000 in
theorem c_X7_isLane (l : Launch) (dC : Nat → ClassId) (dI : Nat → Nat → Nat) (cyI cyJ cyO : ClassId) (sz : Nat) (x1 : Int32) (post : Int32 → Prop) (hf : okP (f_X7_isLane x1) post) : Ci l (dC, dI) (tyL cyI cyJ cyO) yX7_isLane wsX7_isLane rm_X7_isLane [.int x1] sz (W_X7_isLane cyI cyJ cyO) zN (fun r (_ : Unit) => post r) (fun _ => (W_X7_isLane cyI cyJ cyO)) := by
  refine Met.ofW (cc := cX7_isLane) (maxL := 1) (ret := (some .boolean)) (by decide) rfl ?_
  intro p e s m args below meth c s₁ B hml hv
  obtain ⟨rfl, hsz, hP, hK, hD0, hZ⟩ := hv
  have hx := B.exec
  have hb := B.bytes
  have hr := B.returns
  have hts := atoms_spec (ws := wsX7_isLane) B.pre
  have hown : s.vm.findClass RX7 = some m.cls := findClass_of_methodNamed B.named
  have hlocks := B.notSynchronized
  subst hsz
  have hD := hD0.self (sz := s.heap.size)
  generalize hAe : va_A (W_X7_isLane cyI cyJ cyO) s.heap.size = A at hD hZ ⊢
  have hA : ∀ q : Nat, s.heap.size ≤ q → A q := fun q h => by rw [← hAe]; exact Or.inr h
  clear hAe hD0
  have hS : va_S A s.heap s.heap [] := va_S.rf
  have hl := lv_entry ([.int x1]) (n := 1) (Nat.le_of_ble_eq_true rfl)
  rw [lg_entry_eq]
  generalize (lg_sl ([.int x1]) ++ List.replicate (1 - (lg_sl ([.int x1])).length) Slot.unset).toArray = ls at hl ⊢
  have hl : lv_has ls 1 [(0, .int x1)] := hl
  refine kW (fun Q hQ => ?_)
  have hq0 := hts _ (List.mem_cons_of_mem _ q_860)
  have hw := hf
  unfold f_X7_isLane at hw
  have hP : va_P (dC, dI) vwCl (W_X7_isLane cyI cyJ cyO) s.heap := hP
  obtain ⟨H, hH⟩ : ∃ H, H = s.heap := ⟨_, rfl⟩
  obtain ⟨locs, hlo⟩ : ∃ x : List Loc, x = [] := ⟨_, rfl⟩
  have hP : va_P (dC, dI) vwCl (W_X7_isLane cyI cyJ cyO) H := by rw [hH]; exact hP
  have hS : va_S A s.heap H locs := by rw [hH, hlo]; exact hS
  refine kH hH hlo ?_
  clear hH hlo
  refine lv_iload_n hx hb dX7_isLane_0 rfl (lv_at hl 0 rfl) ?_
  refine lv_i2l (v := x1.toInt64) hx hb dX7_isLane_1 rfl ?_
  refine lv_lconst (v := 0) hx hb dX7_isLane_2 (by decide) ?_
  refine lv_ldc2 (v := 2) hx hb hown hq0 dX7_isLane_3 ?_
  have hFc := va_free (wc := []) hD hS hA [] rfl
  refine kp_i (va_runS (As := [.long x1.toInt64, .long 0, .long 2]) (rest := []) ⟨hx, hb, hml, hown, hts⟩ (c_X7_in l dC dI cyI cyJ cyO H.size x1.toInt64 0 2 _ (okb1 hw)) (va_cwS 3 hts (gdS (fun w h => List.mem_cons_of_mem _ h) q_838 q_839 q_8 q_840) rfl rfl rfl (by decide +kernel) ⟨Nat.le_of_ble_eq_true rfl, Nat.le_of_ble_eq_true rfl⟩) (kpre zN_ok hK va_P0 va_D0 trivial hS hFc) rfl rfl hl.1 rfl (lv_room (Nat.le_of_ble_eq_true rfl)) dX7_isLane_6 ⟨Nat.le_of_ble_eq_true rfl, Nat.le_of_ble_eq_true rfl⟩) hP hD hS hFc (fun r_1 H locs hw hP hS => ?_)
  try dsimp only at hw
  clear hFc
  obtain ⟨h_2, hw⟩ := okC hw
  rw [hQ]
  exact W.zret (v := r_1) hx hb hr (nbZ h_2) (fun t ht hW => ⟨⟨r_1, (), rfl, okS hw, by rw [ht]; exact hP, va_K.moved hW.alike hK, hD⟩, hS.F ht⟩) hS.2.2 dX7_isLane_9
