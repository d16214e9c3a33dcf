set_option maxHeartbeats 4000000 in
set_option maxRecDepth 100000 in
/-- Math.floorDiv of longs -/
theorem cM_floorDiv (l : Launch) (a b : Int64) (hne : ¬ b = 0) : Met l yJ9_floorDiv_f86c9 wsJ9_floorDiv_f86c9 (k2_rm 0 0) (va_Pc [.long (a), .long (b)] (fun _ => True)) (k2_QcV (.long (pb_fd a b))) 0 0 (fun _ => False) := by
  refine va_MetF (cc := cJ9_floorDiv_f86c9) (maxL := 6) (ret := some .long) (by decide +kernel) rfl ?_
  intro p e s m args below meth c s₁ B hml hv
  obtain ⟨rfl, -⟩ := hv
  have hx := B.exec
  have hb := B.bytes
  have hr := B.returns
  have hlocks := B.notSynchronized
  have hl := lv_entry ([.long (a), .long (b)]) (n := 6) (Nat.le_of_ble_eq_true rfl)
  rw [lg_entry_eq]
  generalize (lg_sl ([.long (a), .long (b)]) ++ List.replicate (6 - (lg_sl ([.long (a), .long (b)])).length) Slot.unset).toArray = ls at hl ⊢
  have hl : lv_has ls 6 [(0, .long (a)), (2, .long (b))] := hl
  refine lv_lload_n hx hb dJ9_floorDiv_f86c9_0 rfl (lv_at hl 0 rfl) ?_
  refine lv_lload_n hx hb dJ9_floorDiv_f86c9_1 rfl (lv_at hl 1 rfl) ?_
  refine lv_ldiv hx hb dJ9_floorDiv_f86c9_2 hne ?_
  refine lv_lstore (lv' := [(4, .long ((a / b))), (0, .long (a)), (2, .long (b))]) hx hb dJ9_floorDiv_f86c9_3 hl (by decide) rfl (fun ls hl => ?_)
  refine lv_lload_n hx hb dJ9_floorDiv_f86c9_5 rfl (lv_at hl 1 rfl) ?_
  refine lv_lload_n hx hb dJ9_floorDiv_f86c9_6 rfl (lv_at hl 2 rfl) ?_
  refine lv_lxor hx hb dJ9_floorDiv_f86c9_7 ?_
  refine lv_lconst (v := 0) hx hb dJ9_floorDiv_f86c9_8 (by decide +kernel) ?_
  refine W.lcmp hx hb dJ9_floorDiv_f86c9_9 ?_
  refine lv_if_ge (tgt := 27) hx hb dJ9_floorDiv_f86c9_10 (by decide) (fun q1 => ?_) (fun q1 => ?_)
  · -- one sign
    have q1 := (lg_cmp_ge _ _).mp q1
    refine lv_lload hx hb dJ9_floorDiv_f86c9_27 (lv_at hl 0 rfl) ?_
    exact W.lret (v := ((a / b))) hx hb hr (fun t ht hW => ⟨by rw [show pb_fd a b = _ from if_neg (fun h => absurd h.1 (Int64.not_lt.mpr q1))], ht⟩) (fun q h => by cases h) dJ9_floorDiv_f86c9_29
  · -- two signs
    have q1 : (a ^^^ b) < 0 := Int64.not_le.mp (fun h => q1 ((lg_cmp_ge _ _).mpr h))
    refine lv_lload hx hb dJ9_floorDiv_f86c9_13 (lv_at hl 0 rfl) ?_
    refine lv_lload_n hx hb dJ9_floorDiv_f86c9_15 rfl (lv_at hl 2 rfl) ?_
    refine lv_lmul hx hb dJ9_floorDiv_f86c9_16 ?_
    refine lv_lload_n hx hb dJ9_floorDiv_f86c9_17 rfl (lv_at hl 1 rfl) ?_
    refine W.lcmp hx hb dJ9_floorDiv_f86c9_18 ?_
    refine lv_if_eq (tgt := 27) hx hb dJ9_floorDiv_f86c9_19 (by decide) (fun q2 => ?_) (fun q2 => ?_)
    · -- no rest
      have q2 := (lg_cmp_eq _ _).mp q2
      refine lv_lload hx hb dJ9_floorDiv_f86c9_27 (lv_at hl 0 rfl) ?_
      exact W.lret (v := ((a / b))) hx hb hr (fun t ht hW => ⟨by rw [show pb_fd a b = _ from if_neg (fun h => h.2 q2)], ht⟩) (fun q h => by cases h) dJ9_floorDiv_f86c9_29
    · -- a rest
      have q2 : ¬ a / b * b = a := fun h => q2 ((lg_cmp_eq _ _).mpr h)
      refine lv_lload hx hb dJ9_floorDiv_f86c9_22 (lv_at hl 0 rfl) ?_
      refine lv_lconst (v := 1) hx hb dJ9_floorDiv_f86c9_24 (by decide +kernel) ?_
      refine lv_lsub hx hb dJ9_floorDiv_f86c9_25 ?_
      exact W.lret (v := (((a / b) - 1))) hx hb hr (fun t ht hW => ⟨by rw [show pb_fd a b = _ from if_pos ⟨q1, q2⟩], ht⟩) (fun q h => by cases h) dJ9_floorDiv_f86c9_26
set_option maxHeartbeats 4000000 in
set_option maxRecDepth 100000 in
/-- a place on the grid -/
theorem cC_isOnGrid (l : Launch) (a : Int32) : Met l yX0_isOnGrid wsX0_isOnGrid (k2_rm 0 0) (va_Pc [.int (a)] (fun _ => True)) (k2_QcV (.int (pb_b (pb_grid a)))) 0 0 (fun _ => False) := by
  refine Met.ofW (cc := cX0_isOnGrid) (maxL := 1) (ret := some .boolean) (by decide) rfl ?_
  intro p e s m args below meth c s₁ B hml hv
  obtain ⟨rfl, -⟩ := hv
  have hx := B.exec
  have hb := B.bytes
  have hr := B.returns
  have hts := atoms_spec (ws := wsX0_isOnGrid) B.pre
  have hown : s.vm.findClass RX0 = some m.cls := findClass_of_methodNamed B.named
  have hlocks := B.notSynchronized
  have hl := lv_entry ([.int (a)]) (n := 1) (Nat.le_of_ble_eq_true rfl)
  rw [lg_entry_eq]
  generalize (lg_sl ([.int (a)]) ++ List.replicate (1 - (lg_sl ([.int (a)])).length) Slot.unset).toArray = ls at hl ⊢
  have hl : lv_has ls 1 [(0, .int (a))] := hl
  refine lv_iload_n hx hb dX0_isOnGrid_0 rfl (lv_at hl 0 rfl) ?_
  refine lv_sipush (v := (-4096)) hx hb dX0_isOnGrid_1 (by decide +kernel) ?_
  refine lv_icmp_lt (tgt := 18) hx hb dX0_isOnGrid_4 (by decide) (fun q1 => ?_) (fun q1 => ?_)
  · -- below
    refine lv_iconst (v := 0) hx hb dX0_isOnGrid_18 (by decide +kernel) ?_
    exact W.zret (v := (0)) hx hb hr narrow_b0 (fun t ht hW => ⟨by rw [show pb_grid a = false by simp [pb_grid, Int32.not_le.mpr q1]]; rfl, ht⟩) (fun q h => by cases h) dX0_isOnGrid_19
  · -- not below
    refine lv_iload_n hx hb dX0_isOnGrid_7 rfl (lv_at hl 0 rfl) ?_
    refine lv_sipush (v := 4096) hx hb dX0_isOnGrid_8 (by decide +kernel) ?_
    refine lv_icmp_gt (tgt := 18) hx hb dX0_isOnGrid_11 (by decide) (fun q2 => ?_) (fun q2 => ?_)
    · -- above
      refine lv_iconst (v := 0) hx hb dX0_isOnGrid_18 (by decide +kernel) ?_
      exact W.zret (v := (0)) hx hb hr narrow_b0 (fun t ht hW => ⟨by rw [show pb_grid a = false by simp [pb_grid, Int32.not_le.mpr q2]]; rfl, ht⟩) (fun q h => by cases h) dX0_isOnGrid_19
    · -- on it
      refine lv_iconst (v := 1) hx hb dX0_isOnGrid_14 (by decide +kernel) ?_
      refine lv_goto (tgt := 19) hx hb dX0_isOnGrid_15 (by decide) ?_
      exact W.zret (v := (1)) hx hb hr narrow_b1 (fun t ht hW => ⟨by rw [show pb_grid a = true by simp [pb_grid, Int32.not_lt.mp q1, Int32.not_lt.mp q2]]; rfl, ht⟩) (fun q h => by cases h) dX0_isOnGrid_19
set_option maxHeartbeats 4000000 in
set_option maxRecDepth 100000 in
/-- a pixel's middle -/
theorem cC_middle (l : Launch) (a : Int32) : Met l yX0_middle wsX0_middle (k2_rm 0 0) (va_Pc [.int (a)] (fun _ => True)) (k2_QcV (.long (pb_mid a))) 0 0 (fun _ => False) := by
  refine Met.ofW (cc := cX0_middle) (maxL := 1) (ret := some .long) (by decide) rfl ?_
  intro p e s m args below meth c s₁ B hml hv
  obtain ⟨rfl, -⟩ := hv
  have hx := B.exec
  have hb := B.bytes
  have hr := B.returns
  have hts := atoms_spec (ws := wsX0_middle) B.pre
  have hown : s.vm.findClass RX0 = some m.cls := findClass_of_methodNamed B.named
  have hlocks := B.notSynchronized
  have hl := lv_entry ([.int (a)]) (n := 1) (Nat.le_of_ble_eq_true rfl)
  rw [lg_entry_eq]
  generalize (lg_sl ([.int (a)]) ++ List.replicate (1 - (lg_sl ([.int (a)])).length) Slot.unset).toArray = ls at hl ⊢
  have hl : lv_has ls 1 [(0, .int (a))] := hl
  refine lv_ldc2 (v := 16) hx hb hown (hts (.constantLong RX0 56 16) (by decide +kernel)) dX0_middle_0 ?_
  refine lv_iload_n hx hb dX0_middle_3 rfl (lv_at hl 0 rfl) ?_
  refine lv_i2l (v := (a).toInt64) hx hb dX0_middle_4 rfl ?_
  refine lv_lmul hx hb dX0_middle_5 ?_
  refine lv_ldc2 (v := 8) hx hb hown (hts (.constantLong RX0 58 8) (by decide +kernel)) dX0_middle_6 ?_
  refine lv_ladd hx hb dX0_middle_9 ?_
  exact W.lret (v := (((16 * (a).toInt64) + 8))) hx hb hr (fun t ht hW => ⟨rfl, ht⟩) (fun q h => by cases h) dX0_middle_10
set_option maxHeartbeats 4000000 in
set_option maxRecDepth 100000 in
/-- the place of an end of an edge -/
theorem cC_edgeStart (l : Launch) (sl k : Nat) (hs : sl ≤ 512) (hk : k < 3) : Met l yX0_edgeStart wsX0_edgeStart (k2_rm 0 0) (va_Pc [.int (nI (sl)), .int (nI (k))] (fun _ => True)) (k2_QcV (.int (nI (sl * 3 + (k + 1) % 3)))) 0 0 (fun _ => False) := by
  refine Met.ofW (cc := cX0_edgeStart) (maxL := 2) (ret := some .int) (by decide) rfl ?_
  intro p e s m args below meth c s₁ B hml hv
  obtain ⟨rfl, -⟩ := hv
  have hx := B.exec
  have hb := B.bytes
  have hr := B.returns
  have hts := atoms_spec (ws := wsX0_edgeStart) B.pre
  have hown : s.vm.findClass RX0 = some m.cls := findClass_of_methodNamed B.named
  have hlocks := B.notSynchronized
  have hl := lv_entry ([.int (nI (sl)), .int (nI (k))]) (n := 2) (Nat.le_of_ble_eq_true rfl)
  rw [lg_entry_eq]
  generalize (lg_sl ([.int (nI (sl)), .int (nI (k))]) ++ List.replicate (2 - (lg_sl ([.int (nI (sl)), .int (nI (k))])).length) Slot.unset).toArray = ls at hl ⊢
  have hl : lv_has ls 2 [(0, .int (nI (sl))), (1, .int (nI (k)))] := hl
  refine lv_iload_n hx hb dX0_edgeStart_0 rfl (lv_at hl 0 rfl) ?_
  refine lv_iconst (v := nI 3) hx hb dX0_edgeStart_1 (by decide +kernel) ?_
  refine lv_imul hx hb dX0_edgeStart_2 ?_
  refine pb_eqi (pk_mul _ _) ?_
  refine lv_iload_n hx hb dX0_edgeStart_3 rfl (lv_at hl 1 rfl) ?_
  refine lv_iconst (v := nI 1) hx hb dX0_edgeStart_4 (by decide +kernel) ?_
  refine lv_iadd hx hb dX0_edgeStart_5 ?_
  refine pb_eqi (nI_add _ _) ?_
  refine lv_iconst (v := nI 3) hx hb dX0_edgeStart_6 (by decide +kernel) ?_
  refine lv_irem hx hb dX0_edgeStart_7 (by decide +kernel) ?_
  refine pb_eqi (pk_rem (by omega) (by omega) (by omega)) ?_
  refine lv_iadd hx hb dX0_edgeStart_8 ?_
  refine pb_eqi (nI_add _ _) ?_
  exact W.iret (v := (nI (sl * 3 + ((k + 1) % 3)))) hx hb hr (fun t ht hW => ⟨rfl, ht⟩) (fun q h => by cases h) dX0_edgeStart_9
set_option maxHeartbeats 4000000 in
set_option maxRecDepth 100000 in
/-- the place of an end of an edge -/
theorem cC_edgeEnd (l : Launch) (sl k : Nat) (hs : sl ≤ 512) (hk : k < 3) : Met l yX0_edgeEnd wsX0_edgeEnd (k2_rm 0 0) (va_Pc [.int (nI (sl)), .int (nI (k))] (fun _ => True)) (k2_QcV (.int (nI (sl * 3 + (k + 2) % 3)))) 0 0 (fun _ => False) := by
  refine Met.ofW (cc := cX0_edgeEnd) (maxL := 2) (ret := some .int) (by decide) rfl ?_
  intro p e s m args below meth c s₁ B hml hv
  obtain ⟨rfl, -⟩ := hv
  have hx := B.exec
  have hb := B.bytes
  have hr := B.returns
  have hts := atoms_spec (ws := wsX0_edgeEnd) B.pre
  have hown : s.vm.findClass RX0 = some m.cls := findClass_of_methodNamed B.named
  have hlocks := B.notSynchronized
  have hl := lv_entry ([.int (nI (sl)), .int (nI (k))]) (n := 2) (Nat.le_of_ble_eq_true rfl)
  rw [lg_entry_eq]
  generalize (lg_sl ([.int (nI (sl)), .int (nI (k))]) ++ List.replicate (2 - (lg_sl ([.int (nI (sl)), .int (nI (k))])).length) Slot.unset).toArray = ls at hl ⊢
  have hl : lv_has ls 2 [(0, .int (nI (sl))), (1, .int (nI (k)))] := hl
  refine lv_iload_n hx hb dX0_edgeEnd_0 rfl (lv_at hl 0 rfl) ?_
  refine lv_iconst (v := nI 3) hx hb dX0_edgeEnd_1 (by decide +kernel) ?_
  refine lv_imul hx hb dX0_edgeEnd_2 ?_
  refine pb_eqi (pk_mul _ _) ?_
  refine lv_iload_n hx hb dX0_edgeEnd_3 rfl (lv_at hl 1 rfl) ?_
  refine lv_iconst (v := nI 2) hx hb dX0_edgeEnd_4 (by decide +kernel) ?_
  refine lv_iadd hx hb dX0_edgeEnd_5 ?_
  refine pb_eqi (nI_add _ _) ?_
  refine lv_iconst (v := nI 3) hx hb dX0_edgeEnd_6 (by decide +kernel) ?_
  refine lv_irem hx hb dX0_edgeEnd_7 (by decide +kernel) ?_
  refine pb_eqi (pk_rem (by omega) (by omega) (by omega)) ?_
  refine lv_iadd hx hb dX0_edgeEnd_8 ?_
  refine pb_eqi (nI_add _ _) ?_
  exact W.iret (v := (nI (sl * 3 + ((k + 2) % 3)))) hx hb hr (fun t ht hW => ⟨rfl, ht⟩) (fun q h => by cases h) dX0_edgeEnd_9
set_option maxHeartbeats 4000000 in
set_option maxRecDepth 100000 in
/-- a number of a piece -/
theorem cC_isPiece (l : Launch) (dC : Nat → ClassId) (dI : Nat → Nat → Nat) (h0 h1 h2 h3 : Nat) (k1 k2 k3 : ClassId) (X Y Z : Nat → Int32) (n : Nat) (a : Int32) : Met l yX0_isPiece wsX0_isPiece (k2_rm 0 0) (va_Pc [.ref h0, .int (a)] (preC dC dI h0 h1 h2 h3 k1 k2 k3 X Y Z n)) (k2_QcV (.int (pb_b (pb_isP n a)))) 0 0 (fun _ => False) := by
  refine Met.ofW (cc := cX0_isPiece) (maxL := 2) (ret := some .boolean) (by decide) rfl ?_
  intro p e s m args below meth c s₁ B hml hv
  obtain ⟨rfl, hP, hK⟩ := hv
  have hx := B.exec
  have hb := B.bytes
  have hr := B.returns
  have hts := atoms_spec (ws := wsX0_isPiece) B.pre
  have hown : s.vm.findClass RX0 = some m.cls := findClass_of_methodNamed B.named
  have hlocks := B.notSynchronized
  have hin0 : ∀ w ∈ u_ws RX0 TX0 4, w ∈ wsX0_isPiece := by decide +kernel
  have hl := lv_entry ([.ref h0, .int (a)]) (n := 2) (Nat.le_of_ble_eq_true rfl)
  rw [lg_entry_eq]
  generalize (lg_sl ([.ref h0, .int (a)]) ++ List.replicate (2 - (lg_sl ([.ref h0, .int (a)])).length) Slot.unset).toArray = ls at hl ⊢
  have hl : lv_has ls 2 [(0, .ref h0), (1, .int (a))] := hl
  refine lv_iload_n hx hb dX0_isPiece_0 rfl (lv_at hl 1 rfl) ?_
  refine lv_if_lt (tgt := 16) hx hb dX0_isPiece_1 (by decide) (fun q1 => ?_) (fun q1 => ?_)
  · -- negative
    refine lv_iconst (v := 0) hx hb dX0_isPiece_16 (by decide +kernel) ?_
    exact W.zret (v := (0)) hx hb hr narrow_b0 (fun t ht hW => ⟨by rw [show pb_isP n a = false by simp [pb_isP, Int32.not_le.mpr q1]]; rfl, ht⟩) (fun q h => by cases h) dX0_isPiece_17
  · -- not negative
    refine lv_iload_n hx hb dX0_isPiece_4 rfl (lv_at hl 1 rfl) ?_
    refine lv_aload_n hx hb dX0_isPiece_5 rfl (lv_at hl 0 rfl) ?_
    refine va_get (D := (dC, dI)) (ci := 0) (v := .int (nI (n))) (C := RX0) (T := TX0) (N := 4) hx hb hts hin0 hown hK hP 0 rfl rfl 3 (by decide) (hts (.fieldLink RX0 19 "PieceBoxes" "pieces" "I") (by decide +kernel)) (fun _ h9 => h9) rfl dX0_isPiece_6 ?_
    refine lv_icmp_ge (tgt := 16) hx hb dX0_isPiece_9 (by decide) (fun q2 => ?_) (fun q2 => ?_)
    · -- too great
      refine lv_iconst (v := 0) hx hb dX0_isPiece_16 (by decide +kernel) ?_
      exact W.zret (v := (0)) hx hb hr narrow_b0 (fun t ht hW => ⟨by rw [show pb_isP n a = false by simp [pb_isP, Int32.not_lt.mpr q2]]; rfl, ht⟩) (fun q h => by cases h) dX0_isPiece_17
    · -- a piece
      refine lv_iconst (v := 1) hx hb dX0_isPiece_12 (by decide +kernel) ?_
      refine lv_goto (tgt := 17) hx hb dX0_isPiece_13 (by decide) ?_
      exact W.zret (v := (1)) hx hb hr narrow_b1 (fun t ht hW => ⟨by rw [show pb_isP n a = true by simp [pb_isP, Int32.not_lt.mp q1, Int32.not_le.mp q2]]; rfl, ht⟩) (fun q h => by cases h) dX0_isPiece_17
set_option maxHeartbeats 4000000 in
set_option maxRecDepth 100000 in
/-- how many -/
theorem cC_count (l : Launch) (dC : Nat → ClassId) (dI : Nat → Nat → Nat) (h0 h1 h2 h3 : Nat) (k1 k2 k3 : ClassId) (X Y Z : Nat → Int32) (n : Nat)  : Met l yX0_count wsX0_count (k2_rm 0 0) (va_Pc [.ref h0] (preC dC dI h0 h1 h2 h3 k1 k2 k3 X Y Z n)) (k2_QcV (.int (nI n))) 0 0 (fun _ => False) := by
  refine Met.ofW (cc := cX0_count) (maxL := 1) (ret := some .int) (by decide) rfl ?_
  intro p e s m args below meth c s₁ B hml hv
  obtain ⟨rfl, hP, hK⟩ := hv
  have hx := B.exec
  have hb := B.bytes
  have hr := B.returns
  have hts := atoms_spec (ws := wsX0_count) B.pre
  have hown : s.vm.findClass RX0 = some m.cls := findClass_of_methodNamed B.named
  have hlocks := B.notSynchronized
  have hin0 : ∀ w ∈ u_ws RX0 TX0 4, w ∈ wsX0_count := by decide +kernel
  have hl := lv_entry ([.ref h0]) (n := 1) (Nat.le_of_ble_eq_true rfl)
  rw [lg_entry_eq]
  generalize (lg_sl ([.ref h0]) ++ List.replicate (1 - (lg_sl ([.ref h0])).length) Slot.unset).toArray = ls at hl ⊢
  have hl : lv_has ls 1 [(0, .ref h0)] := hl
  refine lv_aload_n hx hb dX0_count_0 rfl (lv_at hl 0 rfl) ?_
  refine va_get (D := (dC, dI)) (ci := 0) (v := .int (nI (n))) (C := RX0) (T := TX0) (N := 4) hx hb hts hin0 hown hK hP 0 rfl rfl 3 (by decide) (hts (.fieldLink RX0 19 "PieceBoxes" "pieces" "I") (by decide +kernel)) (fun _ h9 => h9) rfl dX0_count_1 ?_
  exact W.iret (v := (nI (n))) hx hb hr (fun t ht hW => ⟨rfl, ht⟩) (fun q h => by cases h) dX0_count_4
