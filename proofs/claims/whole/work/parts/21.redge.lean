set_option maxHeartbeats 4000000 in
set_option maxRecDepth 100000 in
theorem cR_edge (l : Launch) (dC : Nat → ClassId) (dI : Nat → Nat → Nat) (g0 g1 : Nat) (r1 : ClassId) (M : Nat → Int32) (n : Nat) (i j : Nat) (hi : i < 1539) (hj : j < 1539) (x y : Int64) : Met l yX1_edge wsX1_edge (k2_rm 0 0) (va_Pc [.ref g0, .int (nI (3 * i)), .int (nI (3 * j)), .long (x), .long (y)] (preR dC dI g0 g1 r1 M n)) (k2_QcV (.long (pb_E (pr0 M) (pr1 M) i j x y))) 0 0 (fun _ => False) := by
  refine Met.ofW (cc := cX1_edge) (maxL := 7) (ret := some .long) (by decide) rfl ?_
  intro p e s m args below meth c s₁ B hml hv
  obtain ⟨rfl, hP, hK⟩ := hv
  have hx := B.exec
  have hb := B.bytes
  have hr := B.returns
  have hts := atoms_spec (ws := wsX1_edge) B.pre
  have hown : s.vm.findClass RX1 = some m.cls := findClass_of_methodNamed B.named
  have hlocks := B.notSynchronized
  have hin1 : ∀ w ∈ u_ws RX1 TX1 3, w ∈ wsX1_edge := by decide +kernel
  have hl := lv_entry ([.ref g0, .int (nI (3 * i)), .int (nI (3 * j)), .long (x), .long (y)]) (n := 7) (Nat.le_of_ble_eq_true rfl)
  rw [lg_entry_eq]
  generalize (lg_sl ([.ref g0, .int (nI (3 * i)), .int (nI (3 * j)), .long (x), .long (y)]) ++ List.replicate (7 - (lg_sl ([.ref g0, .int (nI (3 * i)), .int (nI (3 * j)), .long (x), .long (y)])).length) Slot.unset).toArray = ls at hl ⊢
  have hl : lv_has ls 7 [(0, .ref g0), (1, .int (nI (3 * i))), (2, .int (nI (3 * j))), (3, .long (x)), (5, .long (y))] := hl
  refine lv_aload_n hx hb dX1_edge_0 rfl (lv_at hl 0 rfl) ?_
  refine va_get (D := (dC, dI)) (ci := 1) (v := .ref g1) (C := RX1) (T := TX1) (N := 3) hx hb hts hin1 hown hK hP 0 rfl rfl 2 (by decide) (hts (.fieldLink RX1 7 "PieceBoxesModel" "corners" "[I") (by decide +kernel)) (fun _ h9 => h9) rfl dX1_edge_1 ?_
  refine lv_iload_n hx hb dX1_edge_4 rfl (lv_at hl 2 rfl) ?_
  refine pb_ald (j := 3 * j) hx hb hK hP 1 0 rfl rfl (by omega) (by decide) dX1_edge_5 ?_
  refine lv_aload_n hx hb dX1_edge_6 rfl (lv_at hl 0 rfl) ?_
  refine va_get (D := (dC, dI)) (ci := 1) (v := .ref g1) (C := RX1) (T := TX1) (N := 3) hx hb hts hin1 hown hK hP 0 rfl rfl 2 (by decide) (hts (.fieldLink RX1 7 "PieceBoxesModel" "corners" "[I") (by decide +kernel)) (fun _ h9 => h9) rfl dX1_edge_7 ?_
  refine lv_iload_n hx hb dX1_edge_10 rfl (lv_at hl 1 rfl) ?_
  refine pb_ald (j := 3 * i) hx hb hK hP 1 0 rfl rfl (by omega) (by decide) dX1_edge_11 ?_
  refine lv_isub hx hb dX1_edge_12 ?_
  refine lv_i2l (v := ((M (3 * j) - M (3 * i))).toInt64) hx hb dX1_edge_13 rfl ?_
  refine lv_lload hx hb dX1_edge_14 (lv_at hl 4 rfl) ?_
  refine lv_aload_n hx hb dX1_edge_16 rfl (lv_at hl 0 rfl) ?_
  refine va_get (D := (dC, dI)) (ci := 1) (v := .ref g1) (C := RX1) (T := TX1) (N := 3) hx hb hts hin1 hown hK hP 0 rfl rfl 2 (by decide) (hts (.fieldLink RX1 7 "PieceBoxesModel" "corners" "[I") (by decide +kernel)) (fun _ h9 => h9) rfl dX1_edge_17 ?_
  refine lv_iload_n hx hb dX1_edge_20 rfl (lv_at hl 1 rfl) ?_
  refine lv_iconst (v := nI 1) hx hb dX1_edge_21 (by decide +kernel) ?_
  refine lv_iadd hx hb dX1_edge_22 ?_
  refine pb_eqi (nI_add _ _) ?_
  refine pb_ald (j := 3 * i + 1) hx hb hK hP 1 0 rfl rfl (by omega) (by decide) dX1_edge_23 ?_
  refine lv_i2l (v := (M (3 * i + 1)).toInt64) hx hb dX1_edge_24 rfl ?_
  refine lv_lsub hx hb dX1_edge_25 ?_
  refine lv_lmul hx hb dX1_edge_26 ?_
  refine lv_aload_n hx hb dX1_edge_27 rfl (lv_at hl 0 rfl) ?_
  refine va_get (D := (dC, dI)) (ci := 1) (v := .ref g1) (C := RX1) (T := TX1) (N := 3) hx hb hts hin1 hown hK hP 0 rfl rfl 2 (by decide) (hts (.fieldLink RX1 7 "PieceBoxesModel" "corners" "[I") (by decide +kernel)) (fun _ h9 => h9) rfl dX1_edge_28 ?_
  refine lv_iload_n hx hb dX1_edge_31 rfl (lv_at hl 2 rfl) ?_
  refine lv_iconst (v := nI 1) hx hb dX1_edge_32 (by decide +kernel) ?_
  refine lv_iadd hx hb dX1_edge_33 ?_
  refine pb_eqi (nI_add _ _) ?_
  refine pb_ald (j := 3 * j + 1) hx hb hK hP 1 0 rfl rfl (by omega) (by decide) dX1_edge_34 ?_
  refine lv_aload_n hx hb dX1_edge_35 rfl (lv_at hl 0 rfl) ?_
  refine va_get (D := (dC, dI)) (ci := 1) (v := .ref g1) (C := RX1) (T := TX1) (N := 3) hx hb hts hin1 hown hK hP 0 rfl rfl 2 (by decide) (hts (.fieldLink RX1 7 "PieceBoxesModel" "corners" "[I") (by decide +kernel)) (fun _ h9 => h9) rfl dX1_edge_36 ?_
  refine lv_iload_n hx hb dX1_edge_39 rfl (lv_at hl 1 rfl) ?_
  refine lv_iconst (v := nI 1) hx hb dX1_edge_40 (by decide +kernel) ?_
  refine lv_iadd hx hb dX1_edge_41 ?_
  refine pb_eqi (nI_add _ _) ?_
  refine pb_ald (j := 3 * i + 1) hx hb hK hP 1 0 rfl rfl (by omega) (by decide) dX1_edge_42 ?_
  refine lv_isub hx hb dX1_edge_43 ?_
  refine lv_i2l (v := ((M (3 * j + 1) - M (3 * i + 1))).toInt64) hx hb dX1_edge_44 rfl ?_
  refine lv_lload_n hx hb dX1_edge_45 rfl (lv_at hl 3 rfl) ?_
  refine lv_aload_n hx hb dX1_edge_46 rfl (lv_at hl 0 rfl) ?_
  refine va_get (D := (dC, dI)) (ci := 1) (v := .ref g1) (C := RX1) (T := TX1) (N := 3) hx hb hts hin1 hown hK hP 0 rfl rfl 2 (by decide) (hts (.fieldLink RX1 7 "PieceBoxesModel" "corners" "[I") (by decide +kernel)) (fun _ h9 => h9) rfl dX1_edge_47 ?_
  refine lv_iload_n hx hb dX1_edge_50 rfl (lv_at hl 1 rfl) ?_
  refine pb_ald (j := 3 * i) hx hb hK hP 1 0 rfl rfl (by omega) (by decide) dX1_edge_51 ?_
  refine lv_i2l (v := (M (3 * i)).toInt64) hx hb dX1_edge_52 rfl ?_
  refine lv_lsub hx hb dX1_edge_53 ?_
  refine lv_lmul hx hb dX1_edge_54 ?_
  refine lv_lsub hx hb dX1_edge_55 ?_
  exact W.lret (v := (((((M (3 * j) - M (3 * i))).toInt64 * (y - (M (3 * i + 1)).toInt64)) - (((M (3 * j + 1) - M (3 * i + 1))).toInt64 * (x - (M (3 * i)).toInt64))))) hx hb hr (fun t ht hW => ⟨rfl, ht⟩) (fun q h => by cases h) dX1_edge_56
set_option maxHeartbeats 4000000 in
set_option maxRecDepth 100000 in
theorem cR_areaAt (l : Launch) (dC : Nat → ClassId) (dI : Nat → Nat → Nat) (g0 g1 : Nat) (r1 : ClassId) (M : Nat → Int32) (n : Nat) (sl : Nat) (hs : sl ≤ 512) : Met l yX1_areaAt wsX1_areaAt (k2_rm 1 26) (va_Pc [.ref g0, .int (nI (3 * (sl * 3)))] (preR dC dI g0 g1 r1 M n)) (k2_QcV (.long (pb_ar (pr0 M) (pr1 M) sl))) 0 0 (fun _ => False) := by
  refine Met.ofW (cc := cX1_areaAt) (maxL := 2) (ret := some .long) (by decide) rfl ?_
  intro p e s m args below meth c s₁ B hml hv
  obtain ⟨rfl, hP, hK⟩ := hv
  have hx := B.exec
  have hb := B.bytes
  have hr := B.returns
  have hts := atoms_spec (ws := wsX1_areaAt) B.pre
  have hown : s.vm.findClass RX1 = some m.cls := findClass_of_methodNamed B.named
  have hlocks := B.notSynchronized
  have hin1 : ∀ w ∈ u_ws RX1 TX1 3, w ∈ wsX1_areaAt := by decide +kernel
  have hl := lv_entry ([.ref g0, .int (nI (3 * (sl * 3)))]) (n := 2) (Nat.le_of_ble_eq_true rfl)
  rw [lg_entry_eq]
  generalize (lg_sl ([.ref g0, .int (nI (3 * (sl * 3)))]) ++ List.replicate (2 - (lg_sl ([.ref g0, .int (nI (3 * (sl * 3)))])).length) Slot.unset).toArray = ls at hl ⊢
  have hl : lv_has ls 2 [(0, .ref g0), (1, .int (nI (3 * (sl * 3))))] := hl
  refine lv_aload_n hx hb dX1_areaAt_0 rfl (lv_at hl 0 rfl) ?_
  refine lv_iload_n hx hb dX1_areaAt_1 rfl (lv_at hl 1 rfl) ?_
  refine lv_iload_n hx hb dX1_areaAt_2 rfl (lv_at hl 1 rfl) ?_
  refine lv_iconst (v := nI 3) hx hb dX1_areaAt_3 (by decide +kernel) ?_
  refine lv_iadd hx hb dX1_areaAt_4 ?_
  refine pb_eqi (nI_add _ _) ?_
  refine pb_eqi (congrArg nI (show 3 * (sl * 3) + 3 = 3 * (sl * 3 + 1) by omega)) ?_
  refine lv_aload_n hx hb dX1_areaAt_5 rfl (lv_at hl 0 rfl) ?_
  refine va_get (D := (dC, dI)) (ci := 1) (v := .ref g1) (C := RX1) (T := TX1) (N := 3) hx hb hts hin1 hown hK hP 0 rfl rfl 2 (by decide) (hts (.fieldLink RX1 7 "PieceBoxesModel" "corners" "[I") (by decide +kernel)) (fun _ h9 => h9) rfl dX1_areaAt_6 ?_
  refine lv_iload_n hx hb dX1_areaAt_9 rfl (lv_at hl 1 rfl) ?_
  refine lv_bipush (v := nI 6) hx hb dX1_areaAt_10 (by decide +kernel) ?_
  refine lv_iadd hx hb dX1_areaAt_12 ?_
  refine pb_eqi (nI_add _ _) ?_
  refine pb_eqi (congrArg nI (show 3 * (sl * 3) + 6 = 3 * (sl * 3 + 2) by omega)) ?_
  refine pb_ald (j := 3 * (sl * 3 + 2)) hx hb hK hP 1 0 rfl rfl (by omega) (by decide) dX1_areaAt_13 ?_
  refine lv_i2l (v := (M (3 * (sl * 3 + 2))).toInt64) hx hb dX1_areaAt_14 rfl ?_
  refine lv_aload_n hx hb dX1_areaAt_15 rfl (lv_at hl 0 rfl) ?_
  refine va_get (D := (dC, dI)) (ci := 1) (v := .ref g1) (C := RX1) (T := TX1) (N := 3) hx hb hts hin1 hown hK hP 0 rfl rfl 2 (by decide) (hts (.fieldLink RX1 7 "PieceBoxesModel" "corners" "[I") (by decide +kernel)) (fun _ h9 => h9) rfl dX1_areaAt_16 ?_
  refine lv_iload_n hx hb dX1_areaAt_19 rfl (lv_at hl 1 rfl) ?_
  refine lv_bipush (v := nI 7) hx hb dX1_areaAt_20 (by decide +kernel) ?_
  refine lv_iadd hx hb dX1_areaAt_22 ?_
  refine pb_eqi (nI_add _ _) ?_
  refine pb_eqi (congrArg nI (show 3 * (sl * 3) + 7 = 3 * (sl * 3 + 2) + 1 by omega)) ?_
  refine pb_ald (j := 3 * (sl * 3 + 2) + 1) hx hb hK hP 1 0 rfl rfl (by omega) (by decide) dX1_areaAt_23 ?_
  refine lv_i2l (v := (M (3 * (sl * 3 + 2) + 1)).toInt64) hx hb dX1_areaAt_24 rfl ?_
  refine pb_call (W.runV (As := [.int (nI (3 * (sl * 3))), .int (nI (3 * (sl * 3 + 1))), .long ((M (3 * (sl * 3 + 2))).toInt64), .long ((M (3 * (sl * 3 + 2) + 1)).toInt64)]) (rest := []) ⟨hx, hb, hml, hown, hts⟩ (cR_edge l dC dI g0 g1 r1 M n (sl * 3) (sl * 3 + 1) (by omega) (by omega) (M (3 * (sl * 3 + 2))).toInt64 (M (3 * (sl * 3 + 2) + 1)).toInt64) (cwV 4 hts gX1_areaAt_X1_edge rfl rfl rfl (by decide +kernel) ⟨Nat.le_of_ble_eq_true rfl, Nat.le_of_ble_eq_true rfl⟩) (preR_V hP hK _) rfl rfl hl.1 rfl (lv_room (Nat.le_of_ble_eq_true rfl)) dX1_areaAt_25 ⟨Nat.zero_le _, Nat.zero_le _⟩) ?_
  exact W.lret (v := (pb_E (pr0 M) (pr1 M) (sl * 3) (sl * 3 + 1) (M (3 * (sl * 3 + 2))).toInt64 (M (3 * (sl * 3 + 2) + 1)).toInt64)) hx hb hr (fun t ht hW => ⟨rfl, ht⟩) (fun q h => by cases h) dX1_areaAt_28
set_option maxHeartbeats 4000000 in
set_option maxRecDepth 100000 in
theorem cR_holds (l : Launch) (dC : Nat → ClassId) (dI : Nat → Nat → Nat) (g0 g1 : Nat) (r1 : ClassId) (M : Nat → Int32) (n : Nat) (i j : Nat) (hi : i < 1539) (hj : j < 1539) (x y : Int64) : Met l yX1_holds wsX1_holds (k2_rm 1 26) (va_Pc [.ref g0, .int (nI (3 * i)), .int (nI (3 * j)), .long (x), .long (y)] (preR dC dI g0 g1 r1 M n)) (k2_QcV (.int (pb_b (pb_h (pr0 M) (pr1 M) i j x y)))) 0 0 (fun _ => False) := by
  refine Met.ofW (cc := cX1_holds) (maxL := 10) (ret := some .boolean) (by decide) rfl ?_
  intro p e s m args below meth c s₁ B hml hv
  obtain ⟨rfl, hP, hK⟩ := hv
  have hx := B.exec
  have hb := B.bytes
  have hr := B.returns
  have hts := atoms_spec (ws := wsX1_holds) B.pre
  have hown : s.vm.findClass RX1 = some m.cls := findClass_of_methodNamed B.named
  have hlocks := B.notSynchronized
  have hin1 : ∀ w ∈ u_ws RX1 TX1 3, w ∈ wsX1_holds := by decide +kernel
  have hl := lv_entry ([.ref g0, .int (nI (3 * i)), .int (nI (3 * j)), .long (x), .long (y)]) (n := 10) (Nat.le_of_ble_eq_true rfl)
  rw [lg_entry_eq]
  generalize (lg_sl ([.ref g0, .int (nI (3 * i)), .int (nI (3 * j)), .long (x), .long (y)]) ++ List.replicate (10 - (lg_sl ([.ref g0, .int (nI (3 * i)), .int (nI (3 * j)), .long (x), .long (y)])).length) Slot.unset).toArray = ls at hl ⊢
  have hl : lv_has ls 10 [(0, .ref g0), (1, .int (nI (3 * i))), (2, .int (nI (3 * j))), (3, .long (x)), (5, .long (y))] := hl
  refine lv_aload_n hx hb dX1_holds_0 rfl (lv_at hl 0 rfl) ?_
  refine lv_iload_n hx hb dX1_holds_1 rfl (lv_at hl 1 rfl) ?_
  refine lv_iload_n hx hb dX1_holds_2 rfl (lv_at hl 2 rfl) ?_
  refine lv_lload_n hx hb dX1_holds_3 rfl (lv_at hl 3 rfl) ?_
  refine lv_lload hx hb dX1_holds_4 (lv_at hl 4 rfl) ?_
  refine pb_call (W.runV (As := [.int (nI (3 * i)), .int (nI (3 * j)), .long (x), .long (y)]) (rest := []) ⟨hx, hb, hml, hown, hts⟩ (cR_edge l dC dI g0 g1 r1 M n i j hi hj x y) (cwV 4 hts gX1_holds_X1_edge rfl rfl rfl (by decide +kernel) ⟨Nat.le_of_ble_eq_true rfl, Nat.le_of_ble_eq_true rfl⟩) (preR_V hP hK _) rfl rfl hl.1 rfl (lv_room (Nat.le_of_ble_eq_true rfl)) dX1_holds_6 ⟨Nat.zero_le _, Nat.zero_le _⟩) ?_
  refine lv_lstore (lv' := [(7, .long (pb_E (pr0 M) (pr1 M) i j x y)), (0, .ref g0), (1, .int (nI (3 * i))), (2, .int (nI (3 * j))), (3, .long (x)), (5, .long (y))]) hx hb dX1_holds_9 hl (by decide) rfl (fun ls hl => ?_)
  have tail : ∀ ls : Array Slot, lv_has ls 10 [(9, .int (pb_b (pb_ow (pr0 M) (pr1 M) i j))), (7, .long (pb_E (pr0 M) (pr1 M) i j x y)), (0, .ref g0), (1, .int (nI (3 * i))), (2, .int (nI (3 * j)))] → W p l e (headSpec wsX1_holds (k2_rm 1 26)).room s m ([.ref g0, .int (nI (3 * i)), .int (nI (3 * j)), .long (x), .long (y)] : List Value).toArray below meth c s.heap [] 0 0 (MQ below (k2_QcV (.int (pb_b (pb_h (pr0 M) (pr1 M) i j x y)))) ([.ref g0, .int (nI (3 * i)), .int (nI (3 * j)), .long (x), .long (y)] : List Value).toArray s 0 0 (fun _ => False)) (F0 m 71 ls []) := by
    intro ls hl
    refine lv_lload hx hb dX1_holds_71 (lv_at hl 1 rfl) ?_
    refine lv_lconst (v := 0) hx hb dX1_holds_73 (by decide +kernel) ?_
    refine W.lcmp hx hb dX1_holds_74 ?_
    refine lv_if_gt (tgt := 90) hx hb dX1_holds_75 (by decide) (fun q1 => ?_) (fun q1 => ?_)
    · -- above
      have q1 := (lg_cmp_gt _ _).mp q1
      refine lv_iconst (v := 1) hx hb dX1_holds_90 (by decide +kernel) ?_
      refine lv_goto (tgt := 95) hx hb dX1_holds_91 (by decide) ?_
      exact W.zret (v := (1)) hx hb hr narrow_b1 (fun t ht hW => ⟨by rw [show pb_h (pr0 M) (pr1 M) i j x y = true by simp [pb_h, q1]]; rfl, ht⟩) (fun q h => by cases h) dX1_holds_95
    · -- not above
      have q1 : ¬ 0 < pb_E (pr0 M) (pr1 M) i j x y := fun h => q1 ((lg_cmp_gt _ _).mpr h)
      refine lv_lload hx hb dX1_holds_78 (lv_at hl 1 rfl) ?_
      refine lv_lconst (v := 0) hx hb dX1_holds_80 (by decide +kernel) ?_
      refine W.lcmp hx hb dX1_holds_81 ?_
      refine lv_if_ne (tgt := 94) hx hb dX1_holds_82 (by decide) (fun q2 => ?_) (fun q2 => ?_)
      · -- below
        have q2 : ¬ pb_E (pr0 M) (pr1 M) i j x y = 0 := fun h => q2 ((lg_cmp_eq _ _).mpr h)
        refine lv_iconst (v := 0) hx hb dX1_holds_94 (by decide +kernel) ?_
        exact W.zret (v := (0)) hx hb hr narrow_b0 (fun t ht hW => ⟨by rw [show pb_h (pr0 M) (pr1 M) i j x y = false by simp [pb_h, q1, q2]]; rfl, ht⟩) (fun q h => by cases h) dX1_holds_95
      · -- on it
        have q2 : pb_E (pr0 M) (pr1 M) i j x y = 0 := (lg_cmp_eq _ _).mp q2
        refine lv_iload hx hb dX1_holds_85 (lv_at hl 0 rfl) ?_
        refine lv_if_eq (tgt := 94) hx hb dX1_holds_87 (by decide) (fun q3 => ?_) (fun q3 => ?_)
        · -- not its own
          have q3 := pb_b_eq q3
          refine lv_iconst (v := 0) hx hb dX1_holds_94 (by decide +kernel) ?_
          exact W.zret (v := (0)) hx hb hr narrow_b0 (fun t ht hW => ⟨by rw [show pb_h (pr0 M) (pr1 M) i j x y = false by simp [pb_h, q1, q3]]; rfl, ht⟩) (fun q h => by cases h) dX1_holds_95
        · -- its own
          have q3 := pb_b_ne q3
          refine lv_iconst (v := 1) hx hb dX1_holds_90 (by decide +kernel) ?_
          refine lv_goto (tgt := 95) hx hb dX1_holds_91 (by decide) ?_
          exact W.zret (v := (1)) hx hb hr narrow_b1 (fun t ht hW => ⟨by rw [show pb_h (pr0 M) (pr1 M) i j x y = true by simp [pb_h, q2, q3]]; rfl, ht⟩) (fun q h => by cases h) dX1_holds_95
  refine lv_aload_n hx hb dX1_holds_11 rfl (lv_at hl 1 rfl) ?_
  refine va_get (D := (dC, dI)) (ci := 1) (v := .ref g1) (C := RX1) (T := TX1) (N := 3) hx hb hts hin1 hown hK hP 0 rfl rfl 2 (by decide) (hts (.fieldLink RX1 7 "PieceBoxesModel" "corners" "[I") (by decide +kernel)) (fun _ h9 => h9) rfl dX1_holds_12 ?_
  refine lv_iload_n hx hb dX1_holds_15 rfl (lv_at hl 3 rfl) ?_
  refine lv_iconst (v := nI 1) hx hb dX1_holds_16 (by decide +kernel) ?_
  refine lv_iadd hx hb dX1_holds_17 ?_
  refine pb_eqi (nI_add _ _) ?_
  refine pb_ald (j := 3 * j + 1) hx hb hK hP 1 0 rfl rfl (by omega) (by decide) dX1_holds_18 ?_
  refine lv_aload_n hx hb dX1_holds_19 rfl (lv_at hl 1 rfl) ?_
  refine va_get (D := (dC, dI)) (ci := 1) (v := .ref g1) (C := RX1) (T := TX1) (N := 3) hx hb hts hin1 hown hK hP 0 rfl rfl 2 (by decide) (hts (.fieldLink RX1 7 "PieceBoxesModel" "corners" "[I") (by decide +kernel)) (fun _ h9 => h9) rfl dX1_holds_20 ?_
  refine lv_iload_n hx hb dX1_holds_23 rfl (lv_at hl 2 rfl) ?_
  refine lv_iconst (v := nI 1) hx hb dX1_holds_24 (by decide +kernel) ?_
  refine lv_iadd hx hb dX1_holds_25 ?_
  refine pb_eqi (nI_add _ _) ?_
  refine pb_ald (j := 3 * i + 1) hx hb hK hP 1 0 rfl rfl (by omega) (by decide) dX1_holds_26 ?_
  refine lv_icmp_lt (tgt := 64) hx hb dX1_holds_27 (by decide) (fun q1 => ?_) (fun q1 => ?_)
  · -- up
    refine lv_iconst (v := 1) hx hb dX1_holds_64 (by decide +kernel) ?_
    refine lv_goto (tgt := 69) hx hb dX1_holds_65 (by decide) ?_
    refine lv_istore (lv' := [(9, .int (1)), (7, .long (pb_E (pr0 M) (pr1 M) i j x y)), (0, .ref g0), (1, .int (nI (3 * i))), (2, .int (nI (3 * j))), (3, .long (x)), (5, .long (y))]) hx hb dX1_holds_69 hl (by decide) rfl (fun ls hl => ?_)
    have ho : pb_ow (pr0 M) (pr1 M) i j = true := by unfold pb_ow; simp [pr0, pr1, q1]
    exact tail ls (by rw [ho]; exact lv_sub hl [0, 1, 2, 3, 4] rfl)
  · -- not up
    refine lv_aload_n hx hb dX1_holds_30 rfl (lv_at hl 1 rfl) ?_
    refine va_get (D := (dC, dI)) (ci := 1) (v := .ref g1) (C := RX1) (T := TX1) (N := 3) hx hb hts hin1 hown hK hP 0 rfl rfl 2 (by decide) (hts (.fieldLink RX1 7 "PieceBoxesModel" "corners" "[I") (by decide +kernel)) (fun _ h9 => h9) rfl dX1_holds_31 ?_
    refine lv_iload_n hx hb dX1_holds_34 rfl (lv_at hl 3 rfl) ?_
    refine lv_iconst (v := nI 1) hx hb dX1_holds_35 (by decide +kernel) ?_
    refine lv_iadd hx hb dX1_holds_36 ?_
    refine pb_eqi (nI_add _ _) ?_
    refine pb_ald (j := 3 * j + 1) hx hb hK hP 1 0 rfl rfl (by omega) (by decide) dX1_holds_37 ?_
    refine lv_aload_n hx hb dX1_holds_38 rfl (lv_at hl 1 rfl) ?_
    refine va_get (D := (dC, dI)) (ci := 1) (v := .ref g1) (C := RX1) (T := TX1) (N := 3) hx hb hts hin1 hown hK hP 0 rfl rfl 2 (by decide) (hts (.fieldLink RX1 7 "PieceBoxesModel" "corners" "[I") (by decide +kernel)) (fun _ h9 => h9) rfl dX1_holds_39 ?_
    refine lv_iload_n hx hb dX1_holds_42 rfl (lv_at hl 2 rfl) ?_
    refine lv_iconst (v := nI 1) hx hb dX1_holds_43 (by decide +kernel) ?_
    refine lv_iadd hx hb dX1_holds_44 ?_
    refine pb_eqi (nI_add _ _) ?_
    refine pb_ald (j := 3 * i + 1) hx hb hK hP 1 0 rfl rfl (by omega) (by decide) dX1_holds_45 ?_
    refine lv_icmp_ne (tgt := 68) hx hb dX1_holds_46 (by decide) (fun q2 => ?_) (fun q2 => ?_)
    · -- down
      refine lv_iconst (v := 0) hx hb dX1_holds_68 (by decide +kernel) ?_
      refine lv_istore (lv' := [(9, .int (0)), (7, .long (pb_E (pr0 M) (pr1 M) i j x y)), (0, .ref g0), (1, .int (nI (3 * i))), (2, .int (nI (3 * j))), (3, .long (x)), (5, .long (y))]) hx hb dX1_holds_69 hl (by decide) rfl (fun ls hl => ?_)
      have ho : pb_ow (pr0 M) (pr1 M) i j = false := by unfold pb_ow; simp [pr0, pr1, q1, q2]
      exact tail ls (by rw [ho]; exact lv_sub hl [0, 1, 2, 3, 4] rfl)
    · -- level
      refine lv_aload_n hx hb dX1_holds_49 rfl (lv_at hl 1 rfl) ?_
      refine va_get (D := (dC, dI)) (ci := 1) (v := .ref g1) (C := RX1) (T := TX1) (N := 3) hx hb hts hin1 hown hK hP 0 rfl rfl 2 (by decide) (hts (.fieldLink RX1 7 "PieceBoxesModel" "corners" "[I") (by decide +kernel)) (fun _ h9 => h9) rfl dX1_holds_50 ?_
      refine lv_iload_n hx hb dX1_holds_53 rfl (lv_at hl 3 rfl) ?_
      refine pb_ald (j := 3 * j) hx hb hK hP 1 0 rfl rfl (by omega) (by decide) dX1_holds_54 ?_
      refine lv_aload_n hx hb dX1_holds_55 rfl (lv_at hl 1 rfl) ?_
      refine va_get (D := (dC, dI)) (ci := 1) (v := .ref g1) (C := RX1) (T := TX1) (N := 3) hx hb hts hin1 hown hK hP 0 rfl rfl 2 (by decide) (hts (.fieldLink RX1 7 "PieceBoxesModel" "corners" "[I") (by decide +kernel)) (fun _ h9 => h9) rfl dX1_holds_56 ?_
      refine lv_iload_n hx hb dX1_holds_59 rfl (lv_at hl 2 rfl) ?_
      refine pb_ald (j := 3 * i) hx hb hK hP 1 0 rfl rfl (by omega) (by decide) dX1_holds_60 ?_
      refine lv_icmp_le (tgt := 68) hx hb dX1_holds_61 (by decide) (fun q3 => ?_) (fun q3 => ?_)
      · -- to the left
        have q3 := Int32.not_lt.mpr q3
        refine lv_iconst (v := 0) hx hb dX1_holds_68 (by decide +kernel) ?_
        refine lv_istore (lv' := [(9, .int (0)), (7, .long (pb_E (pr0 M) (pr1 M) i j x y)), (0, .ref g0), (1, .int (nI (3 * i))), (2, .int (nI (3 * j))), (3, .long (x)), (5, .long (y))]) hx hb dX1_holds_69 hl (by decide) rfl (fun ls hl => ?_)
        have ho : pb_ow (pr0 M) (pr1 M) i j = false := by unfold pb_ow; simp [pr0, pr1, q2, q3]
        exact tail ls (by rw [ho]; exact lv_sub hl [0, 1, 2, 3, 4] rfl)
      · -- to the right
        have q3 := Int32.not_le.mp q3
        refine lv_iconst (v := 1) hx hb dX1_holds_64 (by decide +kernel) ?_
        refine lv_goto (tgt := 69) hx hb dX1_holds_65 (by decide) ?_
        refine lv_istore (lv' := [(9, .int (1)), (7, .long (pb_E (pr0 M) (pr1 M) i j x y)), (0, .ref g0), (1, .int (nI (3 * i))), (2, .int (nI (3 * j))), (3, .long (x)), (5, .long (y))]) hx hb dX1_holds_69 hl (by decide) rfl (fun ls hl => ?_)
        have ho : pb_ow (pr0 M) (pr1 M) i j = true := by unfold pb_ow; simp [pr0, pr1, q2, q3]
        exact tail ls (by rw [ho]; exact lv_sub hl [0, 1, 2, 3, 4] rfl)
