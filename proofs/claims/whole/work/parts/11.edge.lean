set_option maxHeartbeats 4000000 in
set_option maxRecDepth 100000 in
/-- E of the edge against corner k -/
theorem cC_edge (l : Launch) (dC : Nat → ClassId) (dI : Nat → Nat → Nat) (h0 h1 h2 h3 : Nat) (k1 k2 k3 : ClassId) (X Y Z : Nat → Int32) (n : Nat) (sl k : Nat) (hs : sl ≤ 512) (hk : k < 3) (x y : Int64) : Met l yX0_edge wsX0_edge (k2_rm 1 21) (va_Pc [.ref h0, .int (nI (sl)), .int (nI (k)), .long (x), .long (y)] (preC dC dI h0 h1 h2 h3 k1 k2 k3 X Y Z n)) (k2_QcV (.long (pb_e X Y sl k x y))) 0 0 (fun _ => False) := by
  refine Met.ofW (cc := cX0_edge) (maxL := 13) (ret := some .long) (by decide) rfl ?_
  intro p e s m args below meth c s₁ B hml hv
  obtain ⟨rfl, hP, hK⟩ := hv
  have hx := B.exec
  have hb := B.bytes
  have hr := B.returns
  have hts := atoms_spec (ws := wsX0_edge) B.pre
  have hown : s.vm.findClass RX0 = some m.cls := findClass_of_methodNamed B.named
  have hlocks := B.notSynchronized
  have hin0 : ∀ w ∈ u_ws RX0 TX0 4, w ∈ wsX0_edge := by decide +kernel
  have hl := lv_entry ([.ref h0, .int (nI (sl)), .int (nI (k)), .long (x), .long (y)]) (n := 13) (Nat.le_of_ble_eq_true rfl)
  rw [lg_entry_eq]
  generalize (lg_sl ([.ref h0, .int (nI (sl)), .int (nI (k)), .long (x), .long (y)]) ++ List.replicate (13 - (lg_sl ([.ref h0, .int (nI (sl)), .int (nI (k)), .long (x), .long (y)])).length) Slot.unset).toArray = ls at hl ⊢
  have hl : lv_has ls 13 [(0, .ref h0), (1, .int (nI (sl))), (2, .int (nI (k))), (3, .long (x)), (5, .long (y))] := hl
  refine lv_iload_n hx hb dX0_edge_0 rfl (lv_at hl 1 rfl) ?_
  refine lv_iload_n hx hb dX0_edge_1 rfl (lv_at hl 2 rfl) ?_
  refine pb_call (W.runS (As := [.int (nI (sl)), .int (nI (k))]) (rest := []) ⟨hx, hb, hml, hown, hts⟩ (cC_edgeStart l sl k hs hk) (va_cwS 2 hts gX0_edge_X0_edgeStart rfl rfl rfl (by decide +kernel) ⟨Nat.le_of_ble_eq_true rfl, Nat.le_of_ble_eq_true rfl⟩) pb_preS rfl rfl hl.1 rfl (lv_room (Nat.le_of_ble_eq_true rfl)) dX0_edge_2 ⟨Nat.zero_le _, Nat.zero_le _⟩) ?_
  refine lv_istore (lv' := [(7, .int (nI (sl * 3 + (k + 1) % 3))), (0, .ref h0), (1, .int (nI (sl))), (2, .int (nI (k))), (3, .long (x)), (5, .long (y))]) hx hb dX0_edge_5 hl (by decide) rfl (fun ls hl => ?_)
  refine lv_iload_n hx hb dX0_edge_7 rfl (lv_at hl 2 rfl) ?_
  refine lv_iload_n hx hb dX0_edge_8 rfl (lv_at hl 3 rfl) ?_
  refine pb_call (W.runS (As := [.int (nI (sl)), .int (nI (k))]) (rest := []) ⟨hx, hb, hml, hown, hts⟩ (cC_edgeEnd l sl k hs hk) (va_cwS 2 hts gX0_edge_X0_edgeEnd rfl rfl rfl (by decide +kernel) ⟨Nat.le_of_ble_eq_true rfl, Nat.le_of_ble_eq_true rfl⟩) pb_preS rfl rfl hl.1 rfl (lv_room (Nat.le_of_ble_eq_true rfl)) dX0_edge_9 ⟨Nat.zero_le _, Nat.zero_le _⟩) ?_
  refine lv_istore (lv' := [(8, .int (nI (sl * 3 + (k + 2) % 3))), (7, .int (nI (sl * 3 + (k + 1) % 3))), (0, .ref h0), (1, .int (nI (sl))), (2, .int (nI (k))), (3, .long (x)), (5, .long (y))]) hx hb dX0_edge_12 hl (by decide) rfl (fun ls hl => ?_)
  refine lv_aload_n hx hb dX0_edge_14 rfl (lv_at hl 2 rfl) ?_
  refine va_get (D := (dC, dI)) (ci := 0) (v := .ref h1) (C := RX0) (T := TX0) (N := 4) hx hb hts hin0 hown hK hP 0 rfl rfl 0 (by decide) (hts (.fieldLink RX0 9 "PieceBoxes" "xs" "[I") (by decide +kernel)) (fun _ h9 => h9) rfl dX0_edge_15 ?_
  refine lv_iload hx hb dX0_edge_18 (lv_at hl 0 rfl) ?_
  refine pb_ald (j := sl * 3 + (k + 2) % 3) hx hb hK hP 1 0 rfl rfl (by omega) (by decide) dX0_edge_20 ?_
  refine lv_aload_n hx hb dX0_edge_21 rfl (lv_at hl 2 rfl) ?_
  refine va_get (D := (dC, dI)) (ci := 0) (v := .ref h1) (C := RX0) (T := TX0) (N := 4) hx hb hts hin0 hown hK hP 0 rfl rfl 0 (by decide) (hts (.fieldLink RX0 9 "PieceBoxes" "xs" "[I") (by decide +kernel)) (fun _ h9 => h9) rfl dX0_edge_22 ?_
  refine lv_iload hx hb dX0_edge_25 (lv_at hl 1 rfl) ?_
  refine pb_ald (j := sl * 3 + (k + 1) % 3) hx hb hK hP 1 0 rfl rfl (by omega) (by decide) dX0_edge_27 ?_
  refine lv_isub hx hb dX0_edge_28 ?_
  refine lv_i2l (v := ((X (sl * 3 + (k + 2) % 3) - X (sl * 3 + (k + 1) % 3))).toInt64) hx hb dX0_edge_29 rfl ?_
  refine lv_lstore (lv' := [(9, .long (((X (sl * 3 + (k + 2) % 3) - X (sl * 3 + (k + 1) % 3))).toInt64)), (8, .int (nI (sl * 3 + (k + 2) % 3))), (7, .int (nI (sl * 3 + (k + 1) % 3))), (0, .ref h0), (1, .int (nI (sl))), (2, .int (nI (k))), (3, .long (x)), (5, .long (y))]) hx hb dX0_edge_30 hl (by decide) rfl (fun ls hl => ?_)
  refine lv_aload_n hx hb dX0_edge_32 rfl (lv_at hl 3 rfl) ?_
  refine va_get (D := (dC, dI)) (ci := 0) (v := .ref h2) (C := RX0) (T := TX0) (N := 4) hx hb hts hin0 hown hK hP 0 rfl rfl 1 (by decide) (hts (.fieldLink RX0 13 "PieceBoxes" "ys" "[I") (by decide +kernel)) (fun _ h9 => h9) rfl dX0_edge_33 ?_
  refine lv_iload hx hb dX0_edge_36 (lv_at hl 1 rfl) ?_
  refine pb_ald (j := sl * 3 + (k + 2) % 3) hx hb hK hP 2 1 rfl rfl (by omega) (by decide) dX0_edge_38 ?_
  refine lv_aload_n hx hb dX0_edge_39 rfl (lv_at hl 3 rfl) ?_
  refine va_get (D := (dC, dI)) (ci := 0) (v := .ref h2) (C := RX0) (T := TX0) (N := 4) hx hb hts hin0 hown hK hP 0 rfl rfl 1 (by decide) (hts (.fieldLink RX0 13 "PieceBoxes" "ys" "[I") (by decide +kernel)) (fun _ h9 => h9) rfl dX0_edge_40 ?_
  refine lv_iload hx hb dX0_edge_43 (lv_at hl 2 rfl) ?_
  refine pb_ald (j := sl * 3 + (k + 1) % 3) hx hb hK hP 2 1 rfl rfl (by omega) (by decide) dX0_edge_45 ?_
  refine lv_isub hx hb dX0_edge_46 ?_
  refine lv_i2l (v := ((Y (sl * 3 + (k + 2) % 3) - Y (sl * 3 + (k + 1) % 3))).toInt64) hx hb dX0_edge_47 rfl ?_
  refine lv_lstore (lv' := [(11, .long (((Y (sl * 3 + (k + 2) % 3) - Y (sl * 3 + (k + 1) % 3))).toInt64)), (9, .long (((X (sl * 3 + (k + 2) % 3) - X (sl * 3 + (k + 1) % 3))).toInt64)), (8, .int (nI (sl * 3 + (k + 2) % 3))), (7, .int (nI (sl * 3 + (k + 1) % 3))), (0, .ref h0), (1, .int (nI (sl))), (2, .int (nI (k))), (3, .long (x)), (5, .long (y))]) hx hb dX0_edge_48 hl (by decide) rfl (fun ls hl => ?_)
  refine lv_lload hx hb dX0_edge_50 (lv_at hl 1 rfl) ?_
  refine lv_lload hx hb dX0_edge_52 (lv_at hl 8 rfl) ?_
  refine lv_aload_n hx hb dX0_edge_54 rfl (lv_at hl 4 rfl) ?_
  refine va_get (D := (dC, dI)) (ci := 0) (v := .ref h2) (C := RX0) (T := TX0) (N := 4) hx hb hts hin0 hown hK hP 0 rfl rfl 1 (by decide) (hts (.fieldLink RX0 13 "PieceBoxes" "ys" "[I") (by decide +kernel)) (fun _ h9 => h9) rfl dX0_edge_55 ?_
  refine lv_iload hx hb dX0_edge_58 (lv_at hl 3 rfl) ?_
  refine pb_ald (j := sl * 3 + (k + 1) % 3) hx hb hK hP 2 1 rfl rfl (by omega) (by decide) dX0_edge_60 ?_
  refine lv_i2l (v := (Y (sl * 3 + (k + 1) % 3)).toInt64) hx hb dX0_edge_61 rfl ?_
  refine lv_lsub hx hb dX0_edge_62 ?_
  refine lv_lmul hx hb dX0_edge_63 ?_
  refine lv_lload hx hb dX0_edge_64 (lv_at hl 0 rfl) ?_
  refine lv_lload_n hx hb dX0_edge_66 rfl (lv_at hl 7 rfl) ?_
  refine lv_aload_n hx hb dX0_edge_67 rfl (lv_at hl 4 rfl) ?_
  refine va_get (D := (dC, dI)) (ci := 0) (v := .ref h1) (C := RX0) (T := TX0) (N := 4) hx hb hts hin0 hown hK hP 0 rfl rfl 0 (by decide) (hts (.fieldLink RX0 9 "PieceBoxes" "xs" "[I") (by decide +kernel)) (fun _ h9 => h9) rfl dX0_edge_68 ?_
  refine lv_iload hx hb dX0_edge_71 (lv_at hl 3 rfl) ?_
  refine pb_ald (j := sl * 3 + (k + 1) % 3) hx hb hK hP 1 0 rfl rfl (by omega) (by decide) dX0_edge_73 ?_
  refine lv_i2l (v := (X (sl * 3 + (k + 1) % 3)).toInt64) hx hb dX0_edge_74 rfl ?_
  refine lv_lsub hx hb dX0_edge_75 ?_
  refine lv_lmul hx hb dX0_edge_76 ?_
  refine lv_lsub hx hb dX0_edge_77 ?_
  exact W.lret (v := (((((X (sl * 3 + (k + 2) % 3) - X (sl * 3 + (k + 1) % 3))).toInt64 * (y - (Y (sl * 3 + (k + 1) % 3)).toInt64)) - (((Y (sl * 3 + (k + 2) % 3) - Y (sl * 3 + (k + 1) % 3))).toInt64 * (x - (X (sl * 3 + (k + 1) % 3)).toInt64))))) hx hb hr (fun t ht hW => ⟨rfl, ht⟩) (fun q h => by cases h) dX0_edge_78
set_option maxHeartbeats 4000000 in
set_option maxRecDepth 100000 in
/-- AREA of a slot -/
theorem cC_areaOf (l : Launch) (dC : Nat → ClassId) (dI : Nat → Nat → Nat) (h0 h1 h2 h3 : Nat) (k1 k2 k3 : ClassId) (X Y Z : Nat → Int32) (n : Nat) (sl : Nat) (hs : sl ≤ 512) : Met l yX0_areaOf wsX0_areaOf (k2_rm 2 53) (va_Pc [.ref h0, .int (nI (sl))] (preC dC dI h0 h1 h2 h3 k1 k2 k3 X Y Z n)) (k2_QcV (.long (pb_ar X Y sl))) 0 0 (fun _ => False) := by
  refine Met.ofW (cc := cX0_areaOf) (maxL := 3) (ret := some .long) (by decide) rfl ?_
  intro p e s m args below meth c s₁ B hml hv
  obtain ⟨rfl, hP, hK⟩ := hv
  have hx := B.exec
  have hb := B.bytes
  have hr := B.returns
  have hts := atoms_spec (ws := wsX0_areaOf) B.pre
  have hown : s.vm.findClass RX0 = some m.cls := findClass_of_methodNamed B.named
  have hlocks := B.notSynchronized
  have hin0 : ∀ w ∈ u_ws RX0 TX0 4, w ∈ wsX0_areaOf := by decide +kernel
  have hl := lv_entry ([.ref h0, .int (nI (sl))]) (n := 3) (Nat.le_of_ble_eq_true rfl)
  rw [lg_entry_eq]
  generalize (lg_sl ([.ref h0, .int (nI (sl))]) ++ List.replicate (3 - (lg_sl ([.ref h0, .int (nI (sl))])).length) Slot.unset).toArray = ls at hl ⊢
  have hl : lv_has ls 3 [(0, .ref h0), (1, .int (nI (sl)))] := hl
  refine lv_iload_n hx hb dX0_areaOf_0 rfl (lv_at hl 1 rfl) ?_
  refine lv_iconst (v := nI 3) hx hb dX0_areaOf_1 (by decide +kernel) ?_
  refine lv_imul hx hb dX0_areaOf_2 ?_
  refine pb_eqi (pk_mul _ _) ?_
  refine lv_iconst (v := nI 2) hx hb dX0_areaOf_3 (by decide +kernel) ?_
  refine lv_iadd hx hb dX0_areaOf_4 ?_
  refine pb_eqi (nI_add _ _) ?_
  refine lv_istore_n (lv' := [(2, .int (nI (sl * 3 + 2))), (0, .ref h0), (1, .int (nI (sl)))]) hx hb dX0_areaOf_5 rfl hl (by decide) rfl (fun ls hl => ?_)
  refine lv_aload_n hx hb dX0_areaOf_6 rfl (lv_at hl 1 rfl) ?_
  refine lv_iload_n hx hb dX0_areaOf_7 rfl (lv_at hl 2 rfl) ?_
  refine lv_iconst (v := nI 2) hx hb dX0_areaOf_8 (by decide +kernel) ?_
  refine lv_aload_n hx hb dX0_areaOf_9 rfl (lv_at hl 1 rfl) ?_
  refine va_get (D := (dC, dI)) (ci := 0) (v := .ref h1) (C := RX0) (T := TX0) (N := 4) hx hb hts hin0 hown hK hP 0 rfl rfl 0 (by decide) (hts (.fieldLink RX0 9 "PieceBoxes" "xs" "[I") (by decide +kernel)) (fun _ h9 => h9) rfl dX0_areaOf_10 ?_
  refine lv_iload_n hx hb dX0_areaOf_13 rfl (lv_at hl 0 rfl) ?_
  refine pb_ald (j := sl * 3 + 2) hx hb hK hP 1 0 rfl rfl (by omega) (by decide) dX0_areaOf_14 ?_
  refine lv_i2l (v := (X (sl * 3 + 2)).toInt64) hx hb dX0_areaOf_15 rfl ?_
  refine lv_aload_n hx hb dX0_areaOf_16 rfl (lv_at hl 1 rfl) ?_
  refine va_get (D := (dC, dI)) (ci := 0) (v := .ref h2) (C := RX0) (T := TX0) (N := 4) hx hb hts hin0 hown hK hP 0 rfl rfl 1 (by decide) (hts (.fieldLink RX0 13 "PieceBoxes" "ys" "[I") (by decide +kernel)) (fun _ h9 => h9) rfl dX0_areaOf_17 ?_
  refine lv_iload_n hx hb dX0_areaOf_20 rfl (lv_at hl 0 rfl) ?_
  refine pb_ald (j := sl * 3 + 2) hx hb hK hP 2 1 rfl rfl (by omega) (by decide) dX0_areaOf_21 ?_
  refine lv_i2l (v := (Y (sl * 3 + 2)).toInt64) hx hb dX0_areaOf_22 rfl ?_
  refine pb_call (W.runV (As := [.int (nI (sl)), .int (nI (2)), .long ((X (sl * 3 + 2)).toInt64), .long ((Y (sl * 3 + 2)).toInt64)]) (rest := []) ⟨hx, hb, hml, hown, hts⟩ (cC_edge l dC dI h0 h1 h2 h3 k1 k2 k3 X Y Z n sl 2 hs (by decide) (X (sl * 3 + 2)).toInt64 (Y (sl * 3 + 2)).toInt64) (cwV 4 hts gX0_areaOf_X0_edge rfl rfl rfl (by decide +kernel) ⟨Nat.le_of_ble_eq_true rfl, Nat.le_of_ble_eq_true rfl⟩) (preC_V hP hK _) rfl rfl hl.1 rfl (lv_room (Nat.le_of_ble_eq_true rfl)) dX0_areaOf_23 ⟨Nat.zero_le _, Nat.zero_le _⟩) ?_
  exact W.lret (v := (pb_ar X Y sl)) hx hb hr (fun t ht hW => ⟨rfl, ht⟩) (fun q h => by cases h) dX0_areaOf_26
set_option maxHeartbeats 4000000 in
set_option maxRecDepth 100000 in
/-- the edge is its own -/
theorem cC_ownsEdge (l : Launch) (dC : Nat → ClassId) (dI : Nat → Nat → Nat) (h0 h1 h2 h3 : Nat) (k1 k2 k3 : ClassId) (X Y Z : Nat → Int32) (n : Nat) (sl k : Nat) (hs : sl ≤ 512) (hk : k < 3) : Met l yX0_ownsEdge wsX0_ownsEdge (k2_rm 1 21) (va_Pc [.ref h0, .int (nI (sl)), .int (nI (k))] (preC dC dI h0 h1 h2 h3 k1 k2 k3 X Y Z n)) (k2_QcV (.int (pb_b (pb_own X Y sl k)))) 0 0 (fun _ => False) := by
  refine Met.ofW (cc := cX0_ownsEdge) (maxL := 5) (ret := some .boolean) (by decide) rfl ?_
  intro p e s m args below meth c s₁ B hml hv
  obtain ⟨rfl, hP, hK⟩ := hv
  have hx := B.exec
  have hb := B.bytes
  have hr := B.returns
  have hts := atoms_spec (ws := wsX0_ownsEdge) B.pre
  have hown : s.vm.findClass RX0 = some m.cls := findClass_of_methodNamed B.named
  have hlocks := B.notSynchronized
  have hin0 : ∀ w ∈ u_ws RX0 TX0 4, w ∈ wsX0_ownsEdge := by decide +kernel
  have hl := lv_entry ([.ref h0, .int (nI (sl)), .int (nI (k))]) (n := 5) (Nat.le_of_ble_eq_true rfl)
  rw [lg_entry_eq]
  generalize (lg_sl ([.ref h0, .int (nI (sl)), .int (nI (k))]) ++ List.replicate (5 - (lg_sl ([.ref h0, .int (nI (sl)), .int (nI (k))])).length) Slot.unset).toArray = ls at hl ⊢
  have hl : lv_has ls 5 [(0, .ref h0), (1, .int (nI (sl))), (2, .int (nI (k)))] := hl
  refine lv_iload_n hx hb dX0_ownsEdge_0 rfl (lv_at hl 1 rfl) ?_
  refine lv_iload_n hx hb dX0_ownsEdge_1 rfl (lv_at hl 2 rfl) ?_
  refine pb_call (W.runS (As := [.int (nI (sl)), .int (nI (k))]) (rest := []) ⟨hx, hb, hml, hown, hts⟩ (cC_edgeStart l sl k hs hk) (va_cwS 2 hts gX0_ownsEdge_X0_edgeStart rfl rfl rfl (by decide +kernel) ⟨Nat.le_of_ble_eq_true rfl, Nat.le_of_ble_eq_true rfl⟩) pb_preS rfl rfl hl.1 rfl (lv_room (Nat.le_of_ble_eq_true rfl)) dX0_ownsEdge_2 ⟨Nat.zero_le _, Nat.zero_le _⟩) ?_
  refine lv_istore_n (lv' := [(3, .int (nI (sl * 3 + (k + 1) % 3))), (0, .ref h0), (1, .int (nI (sl))), (2, .int (nI (k)))]) hx hb dX0_ownsEdge_5 rfl hl (by decide) rfl (fun ls hl => ?_)
  refine lv_iload_n hx hb dX0_ownsEdge_6 rfl (lv_at hl 2 rfl) ?_
  refine lv_iload_n hx hb dX0_ownsEdge_7 rfl (lv_at hl 3 rfl) ?_
  refine pb_call (W.runS (As := [.int (nI (sl)), .int (nI (k))]) (rest := []) ⟨hx, hb, hml, hown, hts⟩ (cC_edgeEnd l sl k hs hk) (va_cwS 2 hts gX0_ownsEdge_X0_edgeEnd rfl rfl rfl (by decide +kernel) ⟨Nat.le_of_ble_eq_true rfl, Nat.le_of_ble_eq_true rfl⟩) pb_preS rfl rfl hl.1 rfl (lv_room (Nat.le_of_ble_eq_true rfl)) dX0_ownsEdge_8 ⟨Nat.zero_le _, Nat.zero_le _⟩) ?_
  refine lv_istore (lv' := [(4, .int (nI (sl * 3 + (k + 2) % 3))), (3, .int (nI (sl * 3 + (k + 1) % 3))), (0, .ref h0), (1, .int (nI (sl))), (2, .int (nI (k)))]) hx hb dX0_ownsEdge_11 hl (by decide) rfl (fun ls hl => ?_)
  refine lv_aload_n hx hb dX0_ownsEdge_13 rfl (lv_at hl 2 rfl) ?_
  refine va_get (D := (dC, dI)) (ci := 0) (v := .ref h2) (C := RX0) (T := TX0) (N := 4) hx hb hts hin0 hown hK hP 0 rfl rfl 1 (by decide) (hts (.fieldLink RX0 13 "PieceBoxes" "ys" "[I") (by decide +kernel)) (fun _ h9 => h9) rfl dX0_ownsEdge_14 ?_
  refine lv_iload hx hb dX0_ownsEdge_17 (lv_at hl 0 rfl) ?_
  refine pb_ald (j := sl * 3 + (k + 2) % 3) hx hb hK hP 2 1 rfl rfl (by omega) (by decide) dX0_ownsEdge_19 ?_
  refine lv_aload_n hx hb dX0_ownsEdge_20 rfl (lv_at hl 2 rfl) ?_
  refine va_get (D := (dC, dI)) (ci := 0) (v := .ref h2) (C := RX0) (T := TX0) (N := 4) hx hb hts hin0 hown hK hP 0 rfl rfl 1 (by decide) (hts (.fieldLink RX0 13 "PieceBoxes" "ys" "[I") (by decide +kernel)) (fun _ h9 => h9) rfl dX0_ownsEdge_21 ?_
  refine lv_iload_n hx hb dX0_ownsEdge_24 rfl (lv_at hl 1 rfl) ?_
  refine pb_ald (j := sl * 3 + (k + 1) % 3) hx hb hK hP 2 1 rfl rfl (by omega) (by decide) dX0_ownsEdge_25 ?_
  refine lv_icmp_lt (tgt := 61) hx hb dX0_ownsEdge_26 (by decide) (fun q1 => ?_) (fun q1 => ?_)
  · -- up
    refine lv_iconst (v := 1) hx hb dX0_ownsEdge_61 (by decide +kernel) ?_
    refine lv_goto (tgt := 66) hx hb dX0_ownsEdge_62 (by decide) ?_
    exact W.zret (v := (1)) hx hb hr narrow_b1 (fun t ht hW => ⟨by rw [show pb_own X Y sl k = true by unfold pb_own; simp [q1]]; rfl, ht⟩) (fun q h => by cases h) dX0_ownsEdge_66
  · -- not up
    refine lv_aload_n hx hb dX0_ownsEdge_29 rfl (lv_at hl 2 rfl) ?_
    refine va_get (D := (dC, dI)) (ci := 0) (v := .ref h2) (C := RX0) (T := TX0) (N := 4) hx hb hts hin0 hown hK hP 0 rfl rfl 1 (by decide) (hts (.fieldLink RX0 13 "PieceBoxes" "ys" "[I") (by decide +kernel)) (fun _ h9 => h9) rfl dX0_ownsEdge_30 ?_
    refine lv_iload hx hb dX0_ownsEdge_33 (lv_at hl 0 rfl) ?_
    refine pb_ald (j := sl * 3 + (k + 2) % 3) hx hb hK hP 2 1 rfl rfl (by omega) (by decide) dX0_ownsEdge_35 ?_
    refine lv_aload_n hx hb dX0_ownsEdge_36 rfl (lv_at hl 2 rfl) ?_
    refine va_get (D := (dC, dI)) (ci := 0) (v := .ref h2) (C := RX0) (T := TX0) (N := 4) hx hb hts hin0 hown hK hP 0 rfl rfl 1 (by decide) (hts (.fieldLink RX0 13 "PieceBoxes" "ys" "[I") (by decide +kernel)) (fun _ h9 => h9) rfl dX0_ownsEdge_37 ?_
    refine lv_iload_n hx hb dX0_ownsEdge_40 rfl (lv_at hl 1 rfl) ?_
    refine pb_ald (j := sl * 3 + (k + 1) % 3) hx hb hK hP 2 1 rfl rfl (by omega) (by decide) dX0_ownsEdge_41 ?_
    refine lv_icmp_ne (tgt := 65) hx hb dX0_ownsEdge_42 (by decide) (fun q2 => ?_) (fun q2 => ?_)
    · -- down
      refine lv_iconst (v := 0) hx hb dX0_ownsEdge_65 (by decide +kernel) ?_
      exact W.zret (v := (0)) hx hb hr narrow_b0 (fun t ht hW => ⟨by rw [show pb_own X Y sl k = false by unfold pb_own; simp [q1, q2]]; rfl, ht⟩) (fun q h => by cases h) dX0_ownsEdge_66
    · -- level
      refine lv_aload_n hx hb dX0_ownsEdge_45 rfl (lv_at hl 2 rfl) ?_
      refine va_get (D := (dC, dI)) (ci := 0) (v := .ref h1) (C := RX0) (T := TX0) (N := 4) hx hb hts hin0 hown hK hP 0 rfl rfl 0 (by decide) (hts (.fieldLink RX0 9 "PieceBoxes" "xs" "[I") (by decide +kernel)) (fun _ h9 => h9) rfl dX0_ownsEdge_46 ?_
      refine lv_iload hx hb dX0_ownsEdge_49 (lv_at hl 0 rfl) ?_
      refine pb_ald (j := sl * 3 + (k + 2) % 3) hx hb hK hP 1 0 rfl rfl (by omega) (by decide) dX0_ownsEdge_51 ?_
      refine lv_aload_n hx hb dX0_ownsEdge_52 rfl (lv_at hl 2 rfl) ?_
      refine va_get (D := (dC, dI)) (ci := 0) (v := .ref h1) (C := RX0) (T := TX0) (N := 4) hx hb hts hin0 hown hK hP 0 rfl rfl 0 (by decide) (hts (.fieldLink RX0 9 "PieceBoxes" "xs" "[I") (by decide +kernel)) (fun _ h9 => h9) rfl dX0_ownsEdge_53 ?_
      refine lv_iload_n hx hb dX0_ownsEdge_56 rfl (lv_at hl 1 rfl) ?_
      refine pb_ald (j := sl * 3 + (k + 1) % 3) hx hb hK hP 1 0 rfl rfl (by omega) (by decide) dX0_ownsEdge_57 ?_
      refine lv_icmp_le (tgt := 65) hx hb dX0_ownsEdge_58 (by decide) (fun q3 => ?_) (fun q3 => ?_)
      · -- to the left
        have q3 := Int32.not_lt.mpr q3
        refine lv_iconst (v := 0) hx hb dX0_ownsEdge_65 (by decide +kernel) ?_
        exact W.zret (v := (0)) hx hb hr narrow_b0 (fun t ht hW => ⟨by rw [show pb_own X Y sl k = false by unfold pb_own; simp [q1, q2, q3]]; rfl, ht⟩) (fun q h => by cases h) dX0_ownsEdge_66
      · -- to the right
        have q3 := Int32.not_le.mp q3
        refine lv_iconst (v := 1) hx hb dX0_ownsEdge_61 (by decide +kernel) ?_
        refine lv_goto (tgt := 66) hx hb dX0_ownsEdge_62 (by decide) ?_
        exact W.zret (v := (1)) hx hb hr narrow_b1 (fun t ht hW => ⟨by rw [show pb_own X Y sl k = true by unfold pb_own; simp [q1, q2, q3]]; rfl, ht⟩) (fun q h => by cases h) dX0_ownsEdge_66
