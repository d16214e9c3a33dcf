set_option maxHeartbeats 4000000 in
set_option maxRecDepth 100000 in
theorem cR_nearAt (l : Launch) (dC : Nat → ClassId) (dI : Nat → Nat → Nat) (g0 g1 : Nat) (r1 : ClassId) (M : Nat → Int32) (n : Nat) (sl : Nat) (hs : sl < 512) (xi yi : Int32) (hI : pb_I1 M sl) : Met l yX1_nearAt wsX1_nearAt (k2_rm 2 55) (va_Pc [.ref g0, .int (nI (sl)), .int (xi), .int (yi)] (preR dC dI g0 g1 r1 M n)) (k2_QcV (.int (pb_nv (pr0 M) (pr1 M) (pr2 M) sl xi yi))) 0 0 (fun _ => False) := by
  refine Met.ofW (cc := cX1_nearAt) (maxL := 11) (ret := some .int) (by decide) rfl ?_
  intro p e s m args below meth c s₁ B hml hv
  obtain ⟨rfl, hP, hK⟩ := hv
  have hx := B.exec
  have hb := B.bytes
  have hr := B.returns
  have hts := atoms_spec (ws := wsX1_nearAt) B.pre
  have hown : s.vm.findClass RX1 = some m.cls := findClass_of_methodNamed B.named
  have hlocks := B.notSynchronized
  have hin1 : ∀ w ∈ u_ws RX1 TX1 3, w ∈ wsX1_nearAt := by decide +kernel
  have hl := lv_entry ([.ref g0, .int (nI (sl)), .int (xi), .int (yi)]) (n := 11) (Nat.le_of_ble_eq_true rfl)
  rw [lg_entry_eq]
  generalize (lg_sl ([.ref g0, .int (nI (sl)), .int (xi), .int (yi)]) ++ List.replicate (11 - (lg_sl ([.ref g0, .int (nI (sl)), .int (xi), .int (yi)])).length) Slot.unset).toArray = ls at hl ⊢
  have hl : lv_has ls 11 [(0, .ref g0), (1, .int (nI (sl))), (2, .int (xi)), (3, .int (yi))] := hl
  refine lv_bipush (v := nI 9) hx hb dX1_nearAt_0 (by decide +kernel) ?_
  refine lv_iload_n hx hb dX1_nearAt_2 rfl (lv_at hl 1 rfl) ?_
  refine lv_imul hx hb dX1_nearAt_3 ?_
  refine pb_eqi (pk_mul _ _) ?_
  refine pb_eqi (congrArg nI (show 9 * sl = 3 * (sl * 3) by omega)) ?_
  refine lv_istore (lv' := [(4, .int (nI (3 * (sl * 3)))), (0, .ref g0), (1, .int (nI (sl))), (2, .int (xi)), (3, .int (yi))]) hx hb dX1_nearAt_4 hl (by decide) rfl (fun ls hl => ?_)
  refine lv_ldc2 (v := 16) hx hb hown (hts (.constantLong RX1 29 16) (by decide +kernel)) dX1_nearAt_6 ?_
  refine lv_iload_n hx hb dX1_nearAt_9 rfl (lv_at hl 3 rfl) ?_
  refine lv_i2l (v := (xi).toInt64) hx hb dX1_nearAt_10 rfl ?_
  refine lv_lmul hx hb dX1_nearAt_11 ?_
  refine lv_ldc2 (v := 8) hx hb hown (hts (.constantLong RX1 31 8) (by decide +kernel)) dX1_nearAt_12 ?_
  refine lv_ladd hx hb dX1_nearAt_15 ?_
  refine lv_lstore (lv' := [(5, .long (((16 * (xi).toInt64) + 8))), (4, .int (nI (3 * (sl * 3)))), (0, .ref g0), (1, .int (nI (sl))), (2, .int (xi)), (3, .int (yi))]) hx hb dX1_nearAt_16 hl (by decide) rfl (fun ls hl => ?_)
  have hl : lv_has ls 11 [(5, .long (pb_mid xi)), (4, .int (nI (3 * (sl * 3)))), (0, .ref g0), (1, .int (nI (sl))), (2, .int (xi)), (3, .int (yi))] := hl
  refine lv_ldc2 (v := 16) hx hb hown (hts (.constantLong RX1 29 16) (by decide +kernel)) dX1_nearAt_18 ?_
  refine lv_iload_n hx hb dX1_nearAt_21 rfl (lv_at hl 5 rfl) ?_
  refine lv_i2l (v := (yi).toInt64) hx hb dX1_nearAt_22 rfl ?_
  refine lv_lmul hx hb dX1_nearAt_23 ?_
  refine lv_ldc2 (v := 8) hx hb hown (hts (.constantLong RX1 31 8) (by decide +kernel)) dX1_nearAt_24 ?_
  refine lv_ladd hx hb dX1_nearAt_27 ?_
  refine lv_lstore (lv' := [(7, .long (((16 * (yi).toInt64) + 8))), (5, .long (pb_mid xi)), (4, .int (nI (3 * (sl * 3)))), (0, .ref g0), (1, .int (nI (sl))), (2, .int (xi)), (3, .int (yi))]) hx hb dX1_nearAt_28 hl (by decide) rfl (fun ls hl => ?_)
  have hl : lv_has ls 11 [(7, .long (pb_mid yi)), (5, .long (pb_mid xi)), (4, .int (nI (3 * (sl * 3)))), (0, .ref g0), (1, .int (nI (sl))), (2, .int (xi)), (3, .int (yi))] := hl
  refine lv_aload_n hx hb dX1_nearAt_30 rfl (lv_at hl 3 rfl) ?_
  refine lv_iload hx hb dX1_nearAt_31 (lv_at hl 2 rfl) ?_
  refine lv_iconst (v := nI 3) hx hb dX1_nearAt_33 (by decide +kernel) ?_
  refine lv_iadd hx hb dX1_nearAt_34 ?_
  refine pb_eqi (nI_add _ _) ?_
  refine pb_eqi (congrArg nI (show 3 * (sl * 3) + 3 = 3 * (sl * 3 + 1) by omega)) ?_
  refine lv_iload hx hb dX1_nearAt_35 (lv_at hl 2 rfl) ?_
  refine lv_bipush (v := nI 6) hx hb dX1_nearAt_37 (by decide +kernel) ?_
  refine lv_iadd hx hb dX1_nearAt_39 ?_
  refine pb_eqi (nI_add _ _) ?_
  refine pb_eqi (congrArg nI (show 3 * (sl * 3) + 6 = 3 * (sl * 3 + 2) by omega)) ?_
  refine lv_lload hx hb dX1_nearAt_40 (lv_at hl 1 rfl) ?_
  refine lv_lload hx hb dX1_nearAt_42 (lv_at hl 0 rfl) ?_
  refine pb_call (W.runV (As := [.int (nI (3 * (sl * 3 + 1))), .int (nI (3 * (sl * 3 + 2))), .long (pb_mid xi), .long (pb_mid yi)]) (rest := []) ⟨hx, hb, hml, hown, hts⟩ (cR_holds l dC dI g0 g1 r1 M n (sl * 3 + 1) (sl * 3 + 2) (by omega) (by omega) (pb_mid xi) (pb_mid yi)) (cwV 4 hts gX1_nearAt_X1_holds rfl rfl rfl (by decide +kernel) ⟨Nat.le_of_ble_eq_true rfl, Nat.le_of_ble_eq_true rfl⟩) (preR_V hP hK _) rfl rfl hl.1 rfl (lv_room (Nat.le_of_ble_eq_true rfl)) dX1_nearAt_44 ⟨Nat.zero_le _, Nat.zero_le _⟩) ?_
  refine lv_if_eq (tgt := 85) hx hb dX1_nearAt_47 (by decide) (fun q1 => ?_) (fun q1 => ?_)
  · -- outside
    have q1 := pb_b_eq q1
    refine lv_iconst (v := (-1)) hx hb dX1_nearAt_85 (by decide +kernel) ?_
    exact W.iret (v := (-1)) hx hb hr (fun t ht hW => ⟨by rw [pb_nv_n1 q1], ht⟩) (fun q h => by cases h) dX1_nearAt_86
  · -- on
    have q1 := pb_b_ne q1
    refine lv_aload_n hx hb dX1_nearAt_50 rfl (lv_at hl 3 rfl) ?_
    refine lv_iload hx hb dX1_nearAt_51 (lv_at hl 2 rfl) ?_
    refine lv_bipush (v := nI 6) hx hb dX1_nearAt_53 (by decide +kernel) ?_
    refine lv_iadd hx hb dX1_nearAt_55 ?_
    refine pb_eqi (nI_add _ _) ?_
    refine pb_eqi (congrArg nI (show 3 * (sl * 3) + 6 = 3 * (sl * 3 + 2) by omega)) ?_
    refine lv_iload hx hb dX1_nearAt_56 (lv_at hl 2 rfl) ?_
    refine lv_lload hx hb dX1_nearAt_58 (lv_at hl 1 rfl) ?_
    refine lv_lload hx hb dX1_nearAt_60 (lv_at hl 0 rfl) ?_
    refine pb_call (W.runV (As := [.int (nI (3 * (sl * 3 + 2))), .int (nI (3 * (sl * 3))), .long (pb_mid xi), .long (pb_mid yi)]) (rest := []) ⟨hx, hb, hml, hown, hts⟩ (cR_holds l dC dI g0 g1 r1 M n (sl * 3 + 2) (sl * 3) (by omega) (by omega) (pb_mid xi) (pb_mid yi)) (cwV 4 hts gX1_nearAt_X1_holds rfl rfl rfl (by decide +kernel) ⟨Nat.le_of_ble_eq_true rfl, Nat.le_of_ble_eq_true rfl⟩) (preR_V hP hK _) rfl rfl hl.1 rfl (lv_room (Nat.le_of_ble_eq_true rfl)) dX1_nearAt_62 ⟨Nat.zero_le _, Nat.zero_le _⟩) ?_
    refine lv_if_eq (tgt := 85) hx hb dX1_nearAt_65 (by decide) (fun q2 => ?_) (fun q2 => ?_)
    · -- outside
      have q2 := pb_b_eq q2
      refine lv_iconst (v := (-1)) hx hb dX1_nearAt_85 (by decide +kernel) ?_
      exact W.iret (v := (-1)) hx hb hr (fun t ht hW => ⟨by rw [pb_nv_n2 q2], ht⟩) (fun q h => by cases h) dX1_nearAt_86
    · -- on
      have q2 := pb_b_ne q2
      refine lv_aload_n hx hb dX1_nearAt_68 rfl (lv_at hl 3 rfl) ?_
      refine lv_iload hx hb dX1_nearAt_69 (lv_at hl 2 rfl) ?_
      refine lv_iload hx hb dX1_nearAt_71 (lv_at hl 2 rfl) ?_
      refine lv_iconst (v := nI 3) hx hb dX1_nearAt_73 (by decide +kernel) ?_
      refine lv_iadd hx hb dX1_nearAt_74 ?_
      refine pb_eqi (nI_add _ _) ?_
      refine pb_eqi (congrArg nI (show 3 * (sl * 3) + 3 = 3 * (sl * 3 + 1) by omega)) ?_
      refine lv_lload hx hb dX1_nearAt_75 (lv_at hl 1 rfl) ?_
      refine lv_lload hx hb dX1_nearAt_77 (lv_at hl 0 rfl) ?_
      refine pb_call (W.runV (As := [.int (nI (3 * (sl * 3))), .int (nI (3 * (sl * 3 + 1))), .long (pb_mid xi), .long (pb_mid yi)]) (rest := []) ⟨hx, hb, hml, hown, hts⟩ (cR_holds l dC dI g0 g1 r1 M n (sl * 3) (sl * 3 + 1) (by omega) (by omega) (pb_mid xi) (pb_mid yi)) (cwV 4 hts gX1_nearAt_X1_holds rfl rfl rfl (by decide +kernel) ⟨Nat.le_of_ble_eq_true rfl, Nat.le_of_ble_eq_true rfl⟩) (preR_V hP hK _) rfl rfl hl.1 rfl (lv_room (Nat.le_of_ble_eq_true rfl)) dX1_nearAt_79 ⟨Nat.zero_le _, Nat.zero_le _⟩) ?_
      refine lv_if_ne (tgt := 87) hx hb dX1_nearAt_82 (by decide) (fun q3 => ?_) (fun q3 => ?_)
      · -- inside
        have q3 := pb_b_ne q3
        refine lv_aload_n hx hb dX1_nearAt_87 rfl (lv_at hl 3 rfl) ?_
        refine lv_iload hx hb dX1_nearAt_88 (lv_at hl 2 rfl) ?_
        refine lv_iconst (v := nI 3) hx hb dX1_nearAt_90 (by decide +kernel) ?_
        refine lv_iadd hx hb dX1_nearAt_91 ?_
        refine pb_eqi (nI_add _ _) ?_
        refine pb_eqi (congrArg nI (show 3 * (sl * 3) + 3 = 3 * (sl * 3 + 1) by omega)) ?_
        refine lv_iload hx hb dX1_nearAt_92 (lv_at hl 2 rfl) ?_
        refine lv_bipush (v := nI 6) hx hb dX1_nearAt_94 (by decide +kernel) ?_
        refine lv_iadd hx hb dX1_nearAt_96 ?_
        refine pb_eqi (nI_add _ _) ?_
        refine pb_eqi (congrArg nI (show 3 * (sl * 3) + 6 = 3 * (sl * 3 + 2) by omega)) ?_
        refine lv_lload hx hb dX1_nearAt_97 (lv_at hl 1 rfl) ?_
        refine lv_lload hx hb dX1_nearAt_99 (lv_at hl 0 rfl) ?_
        refine pb_call (W.runV (As := [.int (nI (3 * (sl * 3 + 1))), .int (nI (3 * (sl * 3 + 2))), .long (pb_mid xi), .long (pb_mid yi)]) (rest := []) ⟨hx, hb, hml, hown, hts⟩ (cR_edge l dC dI g0 g1 r1 M n (sl * 3 + 1) (sl * 3 + 2) (by omega) (by omega) (pb_mid xi) (pb_mid yi)) (cwV 4 hts gX1_nearAt_X1_edge rfl rfl rfl (by decide +kernel) ⟨Nat.le_of_ble_eq_true rfl, Nat.le_of_ble_eq_true rfl⟩) (preR_V hP hK _) rfl rfl hl.1 rfl (lv_room (Nat.le_of_ble_eq_true rfl)) dX1_nearAt_101 ⟨Nat.zero_le _, Nat.zero_le _⟩) ?_
        refine lv_aload_n hx hb dX1_nearAt_104 rfl (lv_at hl 3 rfl) ?_
        refine va_get (D := (dC, dI)) (ci := 1) (v := .ref g1) (C := RX1) (T := TX1) (N := 3) hx hb hts hin1 hown hK hP 0 rfl rfl 2 (by decide) (hts (.fieldLink RX1 7 "PieceBoxesModel" "corners" "[I") (by decide +kernel)) (fun _ h9 => h9) rfl dX1_nearAt_105 ?_
        refine lv_iload hx hb dX1_nearAt_108 (lv_at hl 2 rfl) ?_
        refine lv_iconst (v := nI 2) hx hb dX1_nearAt_110 (by decide +kernel) ?_
        refine lv_iadd hx hb dX1_nearAt_111 ?_
        refine pb_eqi (nI_add _ _) ?_
        refine pb_eqi (congrArg nI (show 3 * (sl * 3) + 2 = 3 * (sl * 3 + 0) + 2 by omega)) ?_
        refine pb_ald (j := 3 * (sl * 3 + 0) + 2) hx hb hK hP 1 0 rfl rfl (by omega) (by decide) dX1_nearAt_112 ?_
        refine lv_i2l (v := (M (3 * (sl * 3 + 0) + 2)).toInt64) hx hb dX1_nearAt_113 rfl ?_
        refine lv_lmul hx hb dX1_nearAt_114 ?_
        refine lv_aload_n hx hb dX1_nearAt_115 rfl (lv_at hl 3 rfl) ?_
        refine lv_iload hx hb dX1_nearAt_116 (lv_at hl 2 rfl) ?_
        refine lv_bipush (v := nI 6) hx hb dX1_nearAt_118 (by decide +kernel) ?_
        refine lv_iadd hx hb dX1_nearAt_120 ?_
        refine pb_eqi (nI_add _ _) ?_
        refine pb_eqi (congrArg nI (show 3 * (sl * 3) + 6 = 3 * (sl * 3 + 2) by omega)) ?_
        refine lv_iload hx hb dX1_nearAt_121 (lv_at hl 2 rfl) ?_
        refine lv_lload hx hb dX1_nearAt_123 (lv_at hl 1 rfl) ?_
        refine lv_lload hx hb dX1_nearAt_125 (lv_at hl 0 rfl) ?_
        refine pb_call (W.runV (As := [.int (nI (3 * (sl * 3 + 2))), .int (nI (3 * (sl * 3))), .long (pb_mid xi), .long (pb_mid yi)]) (rest := [.long ((pb_e (pr0 M) (pr1 M) sl 0 (pb_mid xi) (pb_mid yi) * (M (3 * (sl * 3 + 0) + 2)).toInt64))]) ⟨hx, hb, hml, hown, hts⟩ (cR_edge l dC dI g0 g1 r1 M n (sl * 3 + 2) (sl * 3) (by omega) (by omega) (pb_mid xi) (pb_mid yi)) (cwV 4 hts gX1_nearAt_X1_edge rfl rfl rfl (by decide +kernel) ⟨Nat.le_of_ble_eq_true rfl, Nat.le_of_ble_eq_true rfl⟩) (preR_V hP hK _) rfl rfl hl.1 rfl (lv_room (Nat.le_of_ble_eq_true rfl)) dX1_nearAt_127 ⟨Nat.zero_le _, Nat.zero_le _⟩) ?_
        refine lv_aload_n hx hb dX1_nearAt_130 rfl (lv_at hl 3 rfl) ?_
        refine va_get (D := (dC, dI)) (ci := 1) (v := .ref g1) (C := RX1) (T := TX1) (N := 3) hx hb hts hin1 hown hK hP 0 rfl rfl 2 (by decide) (hts (.fieldLink RX1 7 "PieceBoxesModel" "corners" "[I") (by decide +kernel)) (fun _ h9 => h9) rfl dX1_nearAt_131 ?_
        refine lv_iload hx hb dX1_nearAt_134 (lv_at hl 2 rfl) ?_
        refine lv_iconst (v := nI 5) hx hb dX1_nearAt_136 (by decide +kernel) ?_
        refine lv_iadd hx hb dX1_nearAt_137 ?_
        refine pb_eqi (nI_add _ _) ?_
        refine pb_eqi (congrArg nI (show 3 * (sl * 3) + 5 = 3 * (sl * 3 + 1) + 2 by omega)) ?_
        refine pb_ald (j := 3 * (sl * 3 + 1) + 2) hx hb hK hP 1 0 rfl rfl (by omega) (by decide) dX1_nearAt_138 ?_
        refine lv_i2l (v := (M (3 * (sl * 3 + 1) + 2)).toInt64) hx hb dX1_nearAt_139 rfl ?_
        refine lv_lmul hx hb dX1_nearAt_140 ?_
        refine lv_ladd hx hb dX1_nearAt_141 ?_
        refine lv_aload_n hx hb dX1_nearAt_142 rfl (lv_at hl 3 rfl) ?_
        refine lv_iload hx hb dX1_nearAt_143 (lv_at hl 2 rfl) ?_
        refine lv_iload hx hb dX1_nearAt_145 (lv_at hl 2 rfl) ?_
        refine lv_iconst (v := nI 3) hx hb dX1_nearAt_147 (by decide +kernel) ?_
        refine lv_iadd hx hb dX1_nearAt_148 ?_
        refine pb_eqi (nI_add _ _) ?_
        refine pb_eqi (congrArg nI (show 3 * (sl * 3) + 3 = 3 * (sl * 3 + 1) by omega)) ?_
        refine lv_lload hx hb dX1_nearAt_149 (lv_at hl 1 rfl) ?_
        refine lv_lload hx hb dX1_nearAt_151 (lv_at hl 0 rfl) ?_
        refine pb_call (W.runV (As := [.int (nI (3 * (sl * 3))), .int (nI (3 * (sl * 3 + 1))), .long (pb_mid xi), .long (pb_mid yi)]) (rest := [.long (((pb_e (pr0 M) (pr1 M) sl 0 (pb_mid xi) (pb_mid yi) * (M (3 * (sl * 3 + 0) + 2)).toInt64) + (pb_e (pr0 M) (pr1 M) sl 1 (pb_mid xi) (pb_mid yi) * (M (3 * (sl * 3 + 1) + 2)).toInt64)))]) ⟨hx, hb, hml, hown, hts⟩ (cR_edge l dC dI g0 g1 r1 M n (sl * 3) (sl * 3 + 1) (by omega) (by omega) (pb_mid xi) (pb_mid yi)) (cwV 4 hts gX1_nearAt_X1_edge rfl rfl rfl (by decide +kernel) ⟨Nat.le_of_ble_eq_true rfl, Nat.le_of_ble_eq_true rfl⟩) (preR_V hP hK _) rfl rfl hl.1 rfl (lv_room (Nat.le_of_ble_eq_true rfl)) dX1_nearAt_153 ⟨Nat.zero_le _, Nat.zero_le _⟩) ?_
        refine lv_aload_n hx hb dX1_nearAt_156 rfl (lv_at hl 3 rfl) ?_
        refine va_get (D := (dC, dI)) (ci := 1) (v := .ref g1) (C := RX1) (T := TX1) (N := 3) hx hb hts hin1 hown hK hP 0 rfl rfl 2 (by decide) (hts (.fieldLink RX1 7 "PieceBoxesModel" "corners" "[I") (by decide +kernel)) (fun _ h9 => h9) rfl dX1_nearAt_157 ?_
        refine lv_iload hx hb dX1_nearAt_160 (lv_at hl 2 rfl) ?_
        refine lv_bipush (v := nI 8) hx hb dX1_nearAt_162 (by decide +kernel) ?_
        refine lv_iadd hx hb dX1_nearAt_164 ?_
        refine pb_eqi (nI_add _ _) ?_
        refine pb_eqi (congrArg nI (show 3 * (sl * 3) + 8 = 3 * (sl * 3 + 2) + 2 by omega)) ?_
        refine pb_ald (j := 3 * (sl * 3 + 2) + 2) hx hb hK hP 1 0 rfl rfl (by omega) (by decide) dX1_nearAt_165 ?_
        refine lv_i2l (v := (M (3 * (sl * 3 + 2) + 2)).toInt64) hx hb dX1_nearAt_166 rfl ?_
        refine lv_lmul hx hb dX1_nearAt_167 ?_
        refine lv_ladd hx hb dX1_nearAt_168 ?_
        refine lv_lstore (lv' := [(9, .long ((((pb_e (pr0 M) (pr1 M) sl 0 (pb_mid xi) (pb_mid yi) * (M (3 * (sl * 3 + 0) + 2)).toInt64) + (pb_e (pr0 M) (pr1 M) sl 1 (pb_mid xi) (pb_mid yi) * (M (3 * (sl * 3 + 1) + 2)).toInt64)) + (pb_e (pr0 M) (pr1 M) sl 2 (pb_mid xi) (pb_mid yi) * (M (3 * (sl * 3 + 2) + 2)).toInt64)))), (7, .long (pb_mid yi)), (5, .long (pb_mid xi)), (4, .int (nI (3 * (sl * 3)))), (0, .ref g0), (1, .int (nI (sl))), (2, .int (xi)), (3, .int (yi))]) hx hb dX1_nearAt_169 hl (by decide) rfl (fun ls hl => ?_)
        refine lv_lload hx hb dX1_nearAt_171 (lv_at hl 0 rfl) ?_
        refine lv_aload_n hx hb dX1_nearAt_173 rfl (lv_at hl 4 rfl) ?_
        refine lv_iload hx hb dX1_nearAt_174 (lv_at hl 3 rfl) ?_
        refine pb_call (W.runV (As := [.int (nI (3 * (sl * 3)))]) (rest := [.long ((((pb_e (pr0 M) (pr1 M) sl 0 (pb_mid xi) (pb_mid yi) * (M (3 * (sl * 3 + 0) + 2)).toInt64) + (pb_e (pr0 M) (pr1 M) sl 1 (pb_mid xi) (pb_mid yi) * (M (3 * (sl * 3 + 1) + 2)).toInt64)) + (pb_e (pr0 M) (pr1 M) sl 2 (pb_mid xi) (pb_mid yi) * (M (3 * (sl * 3 + 2) + 2)).toInt64)))]) ⟨hx, hb, hml, hown, hts⟩ (cR_areaAt l dC dI g0 g1 r1 M n sl (by omega)) (cwV 1 hts gX1_nearAt_X1_areaAt rfl rfl rfl (by decide +kernel) ⟨Nat.le_of_ble_eq_true rfl, Nat.le_of_ble_eq_true rfl⟩) (preR_V hP hK _) rfl rfl hl.1 rfl (lv_room (Nat.le_of_ble_eq_true rfl)) dX1_nearAt_176 ⟨Nat.zero_le _, Nat.zero_le _⟩) ?_
        have hne : ¬ pb_ar (pr0 M) (pr1 M) sl = 0 := pb_I1_ne hI
        refine lv_ldiv hx hb dX1_nearAt_179 hne ?_
        refine lv_l2i (v := (((((pb_e (pr0 M) (pr1 M) sl 0 (pb_mid xi) (pb_mid yi) * (M (3 * (sl * 3 + 0) + 2)).toInt64) + (pb_e (pr0 M) (pr1 M) sl 1 (pb_mid xi) (pb_mid yi) * (M (3 * (sl * 3 + 1) + 2)).toInt64)) + (pb_e (pr0 M) (pr1 M) sl 2 (pb_mid xi) (pb_mid yi) * (M (3 * (sl * 3 + 2) + 2)).toInt64)) / pb_ar (pr0 M) (pr1 M) sl)).toInt32) hx hb dX1_nearAt_180 rfl ?_
        exact W.iret (v := ((((((pb_e (pr0 M) (pr1 M) sl 0 (pb_mid xi) (pb_mid yi) * (M (3 * (sl * 3 + 0) + 2)).toInt64) + (pb_e (pr0 M) (pr1 M) sl 1 (pb_mid xi) (pb_mid yi) * (M (3 * (sl * 3 + 1) + 2)).toInt64)) + (pb_e (pr0 M) (pr1 M) sl 2 (pb_mid xi) (pb_mid yi) * (M (3 * (sl * 3 + 2) + 2)).toInt64)) / pb_ar (pr0 M) (pr1 M) sl)).toInt32)) hx hb hr (fun t ht hW => ⟨pb_ans (pb_nv_m hI q1 q2 q3).symm, ht⟩) (fun q h => by cases h) dX1_nearAt_181
      · -- outside
        have q3 := pb_b_eq q3
        refine lv_iconst (v := (-1)) hx hb dX1_nearAt_85 (by decide +kernel) ?_
        exact W.iret (v := (-1)) hx hb hr (fun t ht hW => ⟨by rw [pb_nv_n3 q3], ht⟩) (fun q h => by cases h) dX1_nearAt_86
