set_option maxHeartbeats 4000000 in
set_option maxRecDepth 100000 in
/-- AREA of a piece -/
theorem cC_area (l : Launch) (dC : Nat → ClassId) (dI : Nat → Nat → Nat) (h0 h1 h2 h3 : Nat) (k1 k2 k3 : ClassId) (X Y Z : Nat → Int32) (n : Nat) (hn : n ≤ 512) (a : Int32) : Met l yX0_area wsX0_area (k2_rm 3 75) (va_Pc [.ref h0, .int (a)] (preC dC dI h0 h1 h2 h3 k1 k2 k3 X Y Z n)) (k2_QcV (.int (pb_area X Y n a))) 0 0 (fun _ => False) := by
  refine Met.ofW (cc := cX0_area) (maxL := 2) (ret := some .int) (by decide) rfl ?_
  intro p e s m args below meth c s₁ B hml hv
  obtain ⟨rfl, hP, hK⟩ := hv
  have hx := B.exec
  have hb := B.bytes
  have hr := B.returns
  have hts := atoms_spec (ws := wsX0_area) B.pre
  have hown : s.vm.findClass RX0 = some m.cls := findClass_of_methodNamed B.named
  have hlocks := B.notSynchronized
  have hin0 : ∀ w ∈ u_ws RX0 TX0 4, w ∈ wsX0_area := by decide +kernel
  have hl := lv_entry ([.ref h0, .int (a)]) (n := 2) (Nat.le_of_ble_eq_true rfl)
  rw [lg_entry_eq]
  generalize (lg_sl ([.ref h0, .int (a)]) ++ List.replicate (2 - (lg_sl ([.ref h0, .int (a)])).length) Slot.unset).toArray = ls at hl ⊢
  have hl : lv_has ls 2 [(0, .ref h0), (1, .int (a))] := hl
  refine lv_aload_n hx hb dX0_area_0 rfl (lv_at hl 0 rfl) ?_
  refine lv_iload_n hx hb dX0_area_1 rfl (lv_at hl 1 rfl) ?_
  refine pb_call (W.runV (As := [.int (a)]) (rest := []) ⟨hx, hb, hml, hown, hts⟩ (cC_isPiece l dC dI h0 h1 h2 h3 k1 k2 k3 X Y Z n a) (cwV 1 hts gX0_area_X0_isPiece rfl rfl rfl (by decide +kernel) ⟨Nat.le_of_ble_eq_true rfl, Nat.le_of_ble_eq_true rfl⟩) (preC_V hP hK _) rfl rfl hl.1 rfl (lv_room (Nat.le_of_ble_eq_true rfl)) dX0_area_2 ⟨Nat.zero_le _, Nat.zero_le _⟩) ?_
  refine lv_if_ne (tgt := 10) hx hb dX0_area_5 (by decide) (fun q1 => ?_) (fun q1 => ?_)
  · -- a piece
    have q1 := pb_b_ne q1
    obtain ⟨j, hj, rfl⟩ := pb_isP_t hn q1
    refine lv_aload_n hx hb dX0_area_10 rfl (lv_at hl 0 rfl) ?_
    refine lv_iload_n hx hb dX0_area_11 rfl (lv_at hl 1 rfl) ?_
    refine pb_call (W.runV (As := [.int (nI (j))]) (rest := []) ⟨hx, hb, hml, hown, hts⟩ (cC_areaOf l dC dI h0 h1 h2 h3 k1 k2 k3 X Y Z n j (by omega)) (cwV 1 hts gX0_area_X0_areaOf rfl rfl rfl (by decide +kernel) ⟨Nat.le_of_ble_eq_true rfl, Nat.le_of_ble_eq_true rfl⟩) (preC_V hP hK _) rfl rfl hl.1 rfl (lv_room (Nat.le_of_ble_eq_true rfl)) dX0_area_12 ⟨Nat.zero_le _, Nat.zero_le _⟩) ?_
    refine lv_l2i (v := (pb_ar X Y j).toInt32) hx hb dX0_area_15 rfl ?_
    exact W.iret (v := ((pb_ar X Y j).toInt32)) hx hb hr (fun t ht hW => ⟨by rw [pb_area_t hn hj], ht⟩) (fun q h => by cases h) dX0_area_16
  · -- none
    have q1 := pb_b_eq q1
    refine lv_iconst (v := (-1)) hx hb dX0_area_8 (by decide +kernel) ?_
    exact W.iret (v := (-1)) hx hb hr (fun t ht hW => ⟨by rw [show pb_area X Y n a = _ from if_neg (by rw [q1]; decide)], ht⟩) (fun q h => by cases h) dX0_area_9
set_option maxHeartbeats 4000000 in
set_option maxRecDepth 100000 in
/-- the nearness at a pixel -/
theorem cC_near (l : Launch) (dC : Nat → ClassId) (dI : Nat → Nat → Nat) (h0 h1 h2 h3 : Nat) (k1 k2 k3 : ClassId) (X Y Z : Nat → Int32) (n : Nat) (hn : n ≤ 512) (a xi yi : Int32) : Met l yX0_near wsX0_near (k2_rm 4 104) (va_Pc [.ref h0, .int (a), .int (xi), .int (yi)] (preC dC dI h0 h1 h2 h3 k1 k2 k3 X Y Z n)) (k2_QcV (.int (pb_near X Y Z n a xi yi))) 0 0 (fun _ => False) := by
  refine Met.ofW (cc := cX0_near) (maxL := 4) (ret := some .int) (by decide) rfl ?_
  intro p e s m args below meth c s₁ B hml hv
  obtain ⟨rfl, hP, hK⟩ := hv
  have hx := B.exec
  have hb := B.bytes
  have hr := B.returns
  have hts := atoms_spec (ws := wsX0_near) B.pre
  have hown : s.vm.findClass RX0 = some m.cls := findClass_of_methodNamed B.named
  have hlocks := B.notSynchronized
  have hin0 : ∀ w ∈ u_ws RX0 TX0 4, w ∈ wsX0_near := by decide +kernel
  have hl := lv_entry ([.ref h0, .int (a), .int (xi), .int (yi)]) (n := 4) (Nat.le_of_ble_eq_true rfl)
  rw [lg_entry_eq]
  generalize (lg_sl ([.ref h0, .int (a), .int (xi), .int (yi)]) ++ List.replicate (4 - (lg_sl ([.ref h0, .int (a), .int (xi), .int (yi)])).length) Slot.unset).toArray = ls at hl ⊢
  have hl : lv_has ls 4 [(0, .ref h0), (1, .int (a)), (2, .int (xi)), (3, .int (yi))] := hl
  refine lv_aload_n hx hb dX0_near_0 rfl (lv_at hl 0 rfl) ?_
  refine lv_iload_n hx hb dX0_near_1 rfl (lv_at hl 1 rfl) ?_
  refine pb_call (W.runV (As := [.int (a)]) (rest := []) ⟨hx, hb, hml, hown, hts⟩ (cC_isPiece l dC dI h0 h1 h2 h3 k1 k2 k3 X Y Z n a) (cwV 1 hts gX0_near_X0_isPiece rfl rfl rfl (by decide +kernel) ⟨Nat.le_of_ble_eq_true rfl, Nat.le_of_ble_eq_true rfl⟩) (preC_V hP hK _) rfl rfl hl.1 rfl (lv_room (Nat.le_of_ble_eq_true rfl)) dX0_near_2 ⟨Nat.zero_le _, Nat.zero_le _⟩) ?_
  refine lv_if_eq (tgt := 24) hx hb dX0_near_5 (by decide) (fun q1 => ?_) (fun q1 => ?_)
  · -- no piece
    have q1 := pb_b_eq q1
    refine lv_iconst (v := (-1)) hx hb dX0_near_24 (by decide +kernel) ?_
    exact W.iret (v := (-1)) hx hb hr (fun t ht hW => ⟨by rw [show pb_near X Y Z n a xi yi = _ from if_neg (by rw [q1]; decide)], ht⟩) (fun q h => by cases h) dX0_near_25
  · -- a piece
    have q1 := pb_b_ne q1
    obtain ⟨j, hj, rfl⟩ := pb_isP_t hn q1
    refine lv_aload_n hx hb dX0_near_8 rfl (lv_at hl 0 rfl) ?_
    refine lv_iload_n hx hb dX0_near_9 rfl (lv_at hl 1 rfl) ?_
    refine lv_iload_n hx hb dX0_near_10 rfl (lv_at hl 2 rfl) ?_
    refine pb_call (W.runS (As := [.int (xi)]) (rest := [.int (nI (j)), .ref h0]) ⟨hx, hb, hml, hown, hts⟩ (cC_middle l xi) (va_cwS 1 hts gX0_near_X0_middle rfl rfl rfl (by decide +kernel) ⟨Nat.le_of_ble_eq_true rfl, Nat.le_of_ble_eq_true rfl⟩) pb_preS rfl rfl hl.1 rfl (lv_room (Nat.le_of_ble_eq_true rfl)) dX0_near_11 ⟨Nat.zero_le _, Nat.zero_le _⟩) ?_
    refine lv_iload_n hx hb dX0_near_14 rfl (lv_at hl 3 rfl) ?_
    refine pb_call (W.runS (As := [.int (yi)]) (rest := [.long (pb_mid xi), .int (nI (j)), .ref h0]) ⟨hx, hb, hml, hown, hts⟩ (cC_middle l yi) (va_cwS 1 hts gX0_near_X0_middle rfl rfl rfl (by decide +kernel) ⟨Nat.le_of_ble_eq_true rfl, Nat.le_of_ble_eq_true rfl⟩) pb_preS rfl rfl hl.1 rfl (lv_room (Nat.le_of_ble_eq_true rfl)) dX0_near_15 ⟨Nat.zero_le _, Nat.zero_le _⟩) ?_
    refine pb_call (W.runV (As := [.int (nI (j)), .long (pb_mid xi), .long (pb_mid yi)]) (rest := []) ⟨hx, hb, hml, hown, hts⟩ (cC_covers l dC dI h0 h1 h2 h3 k1 k2 k3 X Y Z n j (by omega) (pb_mid xi) (pb_mid yi)) (cwV 3 hts gX0_near_X0_covers rfl rfl rfl (by decide +kernel) ⟨Nat.le_of_ble_eq_true rfl, Nat.le_of_ble_eq_true rfl⟩) (preC_V hP hK _) rfl rfl hl.1 rfl (lv_room (Nat.le_of_ble_eq_true rfl)) dX0_near_18 ⟨Nat.zero_le _, Nat.zero_le _⟩) ?_
    refine lv_if_ne (tgt := 26) hx hb dX0_near_21 (by decide) (fun q2 => ?_) (fun q2 => ?_)
    · -- covered
      have q2 := pb_b_ne q2
      refine lv_aload_n hx hb dX0_near_26 rfl (lv_at hl 0 rfl) ?_
      refine lv_iload_n hx hb dX0_near_27 rfl (lv_at hl 1 rfl) ?_
      refine lv_iload_n hx hb dX0_near_28 rfl (lv_at hl 2 rfl) ?_
      refine pb_call (W.runS (As := [.int (xi)]) (rest := [.int (nI (j)), .ref h0]) ⟨hx, hb, hml, hown, hts⟩ (cC_middle l xi) (va_cwS 1 hts gX0_near_X0_middle rfl rfl rfl (by decide +kernel) ⟨Nat.le_of_ble_eq_true rfl, Nat.le_of_ble_eq_true rfl⟩) pb_preS rfl rfl hl.1 rfl (lv_room (Nat.le_of_ble_eq_true rfl)) dX0_near_29 ⟨Nat.zero_le _, Nat.zero_le _⟩) ?_
      refine lv_iload_n hx hb dX0_near_32 rfl (lv_at hl 3 rfl) ?_
      refine pb_call (W.runS (As := [.int (yi)]) (rest := [.long (pb_mid xi), .int (nI (j)), .ref h0]) ⟨hx, hb, hml, hown, hts⟩ (cC_middle l yi) (va_cwS 1 hts gX0_near_X0_middle rfl rfl rfl (by decide +kernel) ⟨Nat.le_of_ble_eq_true rfl, Nat.le_of_ble_eq_true rfl⟩) pb_preS rfl rfl hl.1 rfl (lv_room (Nat.le_of_ble_eq_true rfl)) dX0_near_33 ⟨Nat.zero_le _, Nat.zero_le _⟩) ?_
      refine pb_call (W.runV (As := [.int (nI (j)), .long (pb_mid xi), .long (pb_mid yi)]) (rest := []) ⟨hx, hb, hml, hown, hts⟩ (cC_nearnessOf l dC dI h0 h1 h2 h3 k1 k2 k3 X Y Z n j (by omega) (pb_mid xi) (pb_mid yi)) (cwV 3 hts gX0_near_X0_nearnessOf rfl rfl rfl (by decide +kernel) ⟨Nat.le_of_ble_eq_true rfl, Nat.le_of_ble_eq_true rfl⟩) (preC_V hP hK _) rfl rfl hl.1 rfl (lv_room (Nat.le_of_ble_eq_true rfl)) dX0_near_36 ⟨Nat.zero_le _, Nat.zero_le _⟩) ?_
      exact W.iret (v := (pb_nn X Y Z j (pb_mid xi) (pb_mid yi))) hx hb hr (fun t ht hW => ⟨by rw [pb_near_t hn hj, pb_nv, if_pos q2], ht⟩) (fun q h => by cases h) dX0_near_39
    · -- not covered
      have q2 := pb_b_eq q2
      refine lv_iconst (v := (-1)) hx hb dX0_near_24 (by decide +kernel) ?_
      exact W.iret (v := (-1)) hx hb hr (fun t ht hW => ⟨by rw [pb_near_t hn hj, pb_nv, if_neg (by rw [q2]; decide)], ht⟩) (fun q h => by cases h) dX0_near_25
set_option maxHeartbeats 4000000 in
set_option maxRecDepth 100000 in
/-- the nearest piece -/
theorem cC_nearest (l : Launch) (dC : Nat → ClassId) (dI : Nat → Nat → Nat) (h0 h1 h2 h3 : Nat) (k1 k2 k3 : ClassId) (X Y Z : Nat → Int32) (n : Nat) (hn : n ≤ 512) (xi yi : Int32) : Met l yX0_nearest wsX0_nearest (k2_rm 5 127) (va_Pc [.ref h0, .int (xi), .int (yi)] (preC dC dI h0 h1 h2 h3 k1 k2 k3 X Y Z n)) (k2_QcV (.int (pb_ns X Y Z xi yi n).1)) 0 0 (fun _ => False) := by
  refine Met.ofW (cc := cX0_nearest) (maxL := 7) (ret := some .int) (by decide) rfl ?_
  intro p e s m args below meth c s₁ B hml hv
  obtain ⟨rfl, hP, hK⟩ := hv
  have hx := B.exec
  have hb := B.bytes
  have hr := B.returns
  have hts := atoms_spec (ws := wsX0_nearest) B.pre
  have hown : s.vm.findClass RX0 = some m.cls := findClass_of_methodNamed B.named
  have hlocks := B.notSynchronized
  have hin0 : ∀ w ∈ u_ws RX0 TX0 4, w ∈ wsX0_nearest := by decide +kernel
  have hl := lv_entry ([.ref h0, .int (xi), .int (yi)]) (n := 7) (Nat.le_of_ble_eq_true rfl)
  rw [lg_entry_eq]
  generalize (lg_sl ([.ref h0, .int (xi), .int (yi)]) ++ List.replicate (7 - (lg_sl ([.ref h0, .int (xi), .int (yi)])).length) Slot.unset).toArray = ls at hl ⊢
  have hl : lv_has ls 7 [(0, .ref h0), (1, .int (xi)), (2, .int (yi))] := hl
  refine lv_iconst (v := (-1)) hx hb dX0_nearest_0 (by decide +kernel) ?_
  refine lv_istore_n (lv' := [(3, .int (-1)), (0, .ref h0), (1, .int (xi)), (2, .int (yi))]) hx hb dX0_nearest_1 rfl hl (by decide) rfl (fun ls hl => ?_)
  refine lv_iconst (v := (-1)) hx hb dX0_nearest_2 (by decide +kernel) ?_
  refine lv_istore (lv' := [(4, .int (-1)), (3, .int (-1)), (0, .ref h0), (1, .int (xi)), (2, .int (yi))]) hx hb dX0_nearest_3 hl (by decide) rfl (fun ls hl => ?_)
  refine lv_iconst (v := nI 0) hx hb dX0_nearest_5 (by decide +kernel) ?_
  refine lv_istore (lv' := [(5, .int (nI (0))), (4, .int (-1)), (3, .int (-1)), (0, .ref h0), (1, .int (xi)), (2, .int (yi))]) hx hb dX0_nearest_6 hl (by decide) rfl (fun ls hl => ?_)
  suffices loop : ∀ (d j : Nat), j + d = n → ∀ ls : Array Slot, lv_has ls 7 [(5, .int (nI (j))), (3, .int ((pb_ns X Y Z xi yi j).1)), (4, .int ((pb_ns X Y Z xi yi j).2)), (0, .ref h0), (1, .int (xi)), (2, .int (yi))] → W p l e (headSpec wsX0_nearest (k2_rm 5 127)).room s m ([.ref h0, .int (xi), .int (yi)] : List Value).toArray below meth c s.heap [] 0 0 (MQ below (k2_QcV (.int (pb_ns X Y Z xi yi n).1)) ([.ref h0, .int (xi), .int (yi)] : List Value).toArray s 0 0 (fun _ => False)) (F0 m 8 ls []) by
    exact loop n 0 (Nat.zero_add n) ls (lv_sub hl [0, 2, 1, 3, 4, 5] rfl)
  clear hl ls
  intro d
  induction d with
  | zero =>
    intro j hj ls hl
    have hj : j = n := by omega
    refine lv_iload hx hb dX0_nearest_8 (lv_at hl 0 rfl) ?_
    refine lv_aload_n hx hb dX0_nearest_10 rfl (lv_at hl 3 rfl) ?_
    refine va_get (D := (dC, dI)) (ci := 0) (v := .int (nI (n))) (C := RX0) (T := TX0) (N := 4) hx hb hts hin0 hown hK hP 0 rfl rfl 3 (by decide) (hts (.fieldLink RX0 19 "PieceBoxes" "pieces" "I") (by decide +kernel)) (fun _ h9 => h9) rfl dX0_nearest_11 ?_
    refine lv_icmp_ge (tgt := 47) hx hb dX0_nearest_14 (by decide) (fun q1 => ?_) (fun q1 => ?_)
    · -- the end
      refine lv_iload_n hx hb dX0_nearest_47 rfl (lv_at hl 1 rfl) ?_
      exact W.iret (v := ((pb_ns X Y Z xi yi j).1)) hx hb hr (fun t ht hW => ⟨by rw [hj], ht⟩) (fun q h => by cases h) dX0_nearest_48
    · exact absurd (nI_le (by omega) (by omega)) q1
  | succ d ih =>
    intro j hj ls hl
    refine lv_iload hx hb dX0_nearest_8 (lv_at hl 0 rfl) ?_
    refine lv_aload_n hx hb dX0_nearest_10 rfl (lv_at hl 3 rfl) ?_
    refine va_get (D := (dC, dI)) (ci := 0) (v := .int (nI (n))) (C := RX0) (T := TX0) (N := 4) hx hb hts hin0 hown hK hP 0 rfl rfl 3 (by decide) (hts (.fieldLink RX0 19 "PieceBoxes" "pieces" "I") (by decide +kernel)) (fun _ h9 => h9) rfl dX0_nearest_11 ?_
    refine lv_icmp_ge (tgt := 47) hx hb dX0_nearest_14 (by decide) (fun q1 => ?_) (fun q1 => ?_)
    · exact absurd q1 (nI_ge (by omega) (by omega))
    · -- piece j
      refine lv_aload_n hx hb dX0_nearest_17 rfl (lv_at hl 3 rfl) ?_
      refine lv_iload hx hb dX0_nearest_18 (lv_at hl 0 rfl) ?_
      refine lv_iload_n hx hb dX0_nearest_20 rfl (lv_at hl 4 rfl) ?_
      refine lv_iload_n hx hb dX0_nearest_21 rfl (lv_at hl 5 rfl) ?_
      refine pb_call (W.runV (As := [.int (nI (j)), .int (xi), .int (yi)]) (rest := []) ⟨hx, hb, hml, hown, hts⟩ (cC_near l dC dI h0 h1 h2 h3 k1 k2 k3 X Y Z n hn (nI j) xi yi) (cwV 3 hts gX0_nearest_X0_near rfl rfl rfl (by decide +kernel) ⟨Nat.le_of_ble_eq_true rfl, Nat.le_of_ble_eq_true rfl⟩) (preC_V hP hK _) rfl rfl hl.1 rfl (lv_room (Nat.le_of_ble_eq_true rfl)) dX0_nearest_22 ⟨Nat.zero_le _, Nat.zero_le _⟩) ?_
      refine pb_eqi (pb_near_t hn (by omega)) ?_
      refine lv_istore (lv' := [(6, .int (pb_nv X Y Z j xi yi)), (5, .int (nI (j))), (3, .int ((pb_ns X Y Z xi yi j).1)), (4, .int ((pb_ns X Y Z xi yi j).2)), (0, .ref h0), (1, .int (xi)), (2, .int (yi))]) hx hb dX0_nearest_25 hl (by decide) rfl (fun ls hl => ?_)
      refine lv_iload hx hb dX0_nearest_27 (lv_at hl 0 rfl) ?_
      refine lv_iload hx hb dX0_nearest_29 (lv_at hl 3 rfl) ?_
      refine lv_icmp_le (tgt := 41) hx hb dX0_nearest_31 (by decide) (fun q2 => ?_) (fun q2 => ?_)
      · -- not nearer
        refine lv_iinc (v := (nI (j + 1))) (lv' := [(5, .int (nI (j + 1))), (6, .int (pb_nv X Y Z j xi yi)), (3, .int ((pb_ns X Y Z xi yi j).1)), (4, .int ((pb_ns X Y Z xi yi j).2)), (0, .ref h0), (1, .int (xi)), (2, .int (yi))]) hx hb dX0_nearest_41 hl (k := 1) rfl (by exact (nI_1 (j))) (by decide) rfl (fun ls hl => ?_)
        refine lv_goto (tgt := 8) hx hb dX0_nearest_44 (by decide) ?_
        have hst : pb_ns X Y Z xi yi (j + 1) = _ := if_neg (Int32.not_lt.mpr q2)
        exact ih (j + 1) (by omega) ls (by rw [hst]; exact lv_sub hl [0, 2, 3, 4, 5, 6] rfl)
      · -- nearer
        refine lv_iload hx hb dX0_nearest_34 (lv_at hl 1 rfl) ?_
        refine lv_istore_n (lv' := [(3, .int (nI (j))), (6, .int (pb_nv X Y Z j xi yi)), (5, .int (nI (j))), (4, .int ((pb_ns X Y Z xi yi j).2)), (0, .ref h0), (1, .int (xi)), (2, .int (yi))]) hx hb dX0_nearest_36 rfl hl (by decide) rfl (fun ls hl => ?_)
        refine lv_iload hx hb dX0_nearest_37 (lv_at hl 1 rfl) ?_
        refine lv_istore (lv' := [(4, .int (pb_nv X Y Z j xi yi)), (3, .int (nI (j))), (6, .int (pb_nv X Y Z j xi yi)), (5, .int (nI (j))), (0, .ref h0), (1, .int (xi)), (2, .int (yi))]) hx hb dX0_nearest_39 hl (by decide) rfl (fun ls hl => ?_)
        refine lv_iinc (v := (nI (j + 1))) (lv' := [(5, .int (nI (j + 1))), (4, .int (pb_nv X Y Z j xi yi)), (3, .int (nI (j))), (6, .int (pb_nv X Y Z j xi yi)), (0, .ref h0), (1, .int (xi)), (2, .int (yi))]) hx hb dX0_nearest_41 hl (k := 3) rfl (by exact (nI_1 (j))) (by decide) rfl (fun ls hl => ?_)
        refine lv_goto (tgt := 8) hx hb dX0_nearest_44 (by decide) ?_
        have hst : pb_ns X Y Z xi yi (j + 1) = _ := if_pos (Int32.not_le.mp q2)
        exact ih (j + 1) (by omega) ls (by rw [hst]; exact lv_sub hl [0, 2, 1, 4, 5, 6] rfl)
set_option maxHeartbeats 4000000 in
set_option maxRecDepth 100000 in
/-- how many cover it -/
theorem cC_covering (l : Launch) (dC : Nat → ClassId) (dI : Nat → Nat → Nat) (h0 h1 h2 h3 : Nat) (k1 k2 k3 : ClassId) (X Y Z : Nat → Int32) (n : Nat) (hn : n ≤ 512) (xi yi : Int32) : Met l yX0_covering wsX0_covering (k2_rm 3 81) (va_Pc [.ref h0, .int (xi), .int (yi)] (preC dC dI h0 h1 h2 h3 k1 k2 k3 X Y Z n)) (k2_QcV (.int (pb_cv X Y (pb_mid xi) (pb_mid yi) n))) 0 0 (fun _ => False) := by
  refine Met.ofW (cc := cX0_covering) (maxL := 5) (ret := some .int) (by decide) rfl ?_
  intro p e s m args below meth c s₁ B hml hv
  obtain ⟨rfl, hP, hK⟩ := hv
  have hx := B.exec
  have hb := B.bytes
  have hr := B.returns
  have hts := atoms_spec (ws := wsX0_covering) B.pre
  have hown : s.vm.findClass RX0 = some m.cls := findClass_of_methodNamed B.named
  have hlocks := B.notSynchronized
  have hin0 : ∀ w ∈ u_ws RX0 TX0 4, w ∈ wsX0_covering := by decide +kernel
  have hl := lv_entry ([.ref h0, .int (xi), .int (yi)]) (n := 5) (Nat.le_of_ble_eq_true rfl)
  rw [lg_entry_eq]
  generalize (lg_sl ([.ref h0, .int (xi), .int (yi)]) ++ List.replicate (5 - (lg_sl ([.ref h0, .int (xi), .int (yi)])).length) Slot.unset).toArray = ls at hl ⊢
  have hl : lv_has ls 5 [(0, .ref h0), (1, .int (xi)), (2, .int (yi))] := hl
  refine lv_iconst (v := 0) hx hb dX0_covering_0 (by decide +kernel) ?_
  refine lv_istore_n (lv' := [(3, .int (0)), (0, .ref h0), (1, .int (xi)), (2, .int (yi))]) hx hb dX0_covering_1 rfl hl (by decide) rfl (fun ls hl => ?_)
  refine lv_iconst (v := nI 0) hx hb dX0_covering_2 (by decide +kernel) ?_
  refine lv_istore (lv' := [(4, .int (nI (0))), (3, .int (0)), (0, .ref h0), (1, .int (xi)), (2, .int (yi))]) hx hb dX0_covering_3 hl (by decide) rfl (fun ls hl => ?_)
  suffices loop : ∀ (d j : Nat), j + d = n → ∀ ls : Array Slot, lv_has ls 5 [(4, .int (nI (j))), (3, .int (pb_cv X Y (pb_mid xi) (pb_mid yi) j)), (0, .ref h0), (1, .int (xi)), (2, .int (yi))] → W p l e (headSpec wsX0_covering (k2_rm 3 81)).room s m ([.ref h0, .int (xi), .int (yi)] : List Value).toArray below meth c s.heap [] 0 0 (MQ below (k2_QcV (.int (pb_cv X Y (pb_mid xi) (pb_mid yi) n))) ([.ref h0, .int (xi), .int (yi)] : List Value).toArray s 0 0 (fun _ => False)) (F0 m 5 ls []) by
    exact loop n 0 (Nat.zero_add n) ls (lv_sub hl [0, 1, 2, 3, 4] rfl)
  clear hl ls
  intro d
  induction d with
  | zero =>
    intro j hj ls hl
    have hj : j = n := by omega
    refine lv_iload hx hb dX0_covering_5 (lv_at hl 0 rfl) ?_
    refine lv_aload_n hx hb dX0_covering_7 rfl (lv_at hl 2 rfl) ?_
    refine va_get (D := (dC, dI)) (ci := 0) (v := .int (nI (n))) (C := RX0) (T := TX0) (N := 4) hx hb hts hin0 hown hK hP 0 rfl rfl 3 (by decide) (hts (.fieldLink RX0 19 "PieceBoxes" "pieces" "I") (by decide +kernel)) (fun _ h9 => h9) rfl dX0_covering_8 ?_
    refine lv_icmp_ge (tgt := 40) hx hb dX0_covering_11 (by decide) (fun q1 => ?_) (fun q1 => ?_)
    · -- the end
      refine lv_iload_n hx hb dX0_covering_40 rfl (lv_at hl 1 rfl) ?_
      exact W.iret (v := (pb_cv X Y (pb_mid xi) (pb_mid yi) j)) hx hb hr (fun t ht hW => ⟨by rw [hj], ht⟩) (fun q h => by cases h) dX0_covering_41
    · exact absurd (nI_le (by omega) (by omega)) q1
  | succ d ih =>
    intro j hj ls hl
    refine lv_iload hx hb dX0_covering_5 (lv_at hl 0 rfl) ?_
    refine lv_aload_n hx hb dX0_covering_7 rfl (lv_at hl 2 rfl) ?_
    refine va_get (D := (dC, dI)) (ci := 0) (v := .int (nI (n))) (C := RX0) (T := TX0) (N := 4) hx hb hts hin0 hown hK hP 0 rfl rfl 3 (by decide) (hts (.fieldLink RX0 19 "PieceBoxes" "pieces" "I") (by decide +kernel)) (fun _ h9 => h9) rfl dX0_covering_8 ?_
    refine lv_icmp_ge (tgt := 40) hx hb dX0_covering_11 (by decide) (fun q1 => ?_) (fun q1 => ?_)
    · exact absurd q1 (nI_ge (by omega) (by omega))
    · -- piece j
      refine lv_aload_n hx hb dX0_covering_14 rfl (lv_at hl 2 rfl) ?_
      refine lv_iload hx hb dX0_covering_15 (lv_at hl 0 rfl) ?_
      refine lv_iload_n hx hb dX0_covering_17 rfl (lv_at hl 3 rfl) ?_
      refine pb_call (W.runS (As := [.int (xi)]) (rest := [.int (nI (j)), .ref h0]) ⟨hx, hb, hml, hown, hts⟩ (cC_middle l xi) (va_cwS 1 hts gX0_covering_X0_middle rfl rfl rfl (by decide +kernel) ⟨Nat.le_of_ble_eq_true rfl, Nat.le_of_ble_eq_true rfl⟩) pb_preS rfl rfl hl.1 rfl (lv_room (Nat.le_of_ble_eq_true rfl)) dX0_covering_18 ⟨Nat.zero_le _, Nat.zero_le _⟩) ?_
      refine lv_iload_n hx hb dX0_covering_21 rfl (lv_at hl 4 rfl) ?_
      refine pb_call (W.runS (As := [.int (yi)]) (rest := [.long (pb_mid xi), .int (nI (j)), .ref h0]) ⟨hx, hb, hml, hown, hts⟩ (cC_middle l yi) (va_cwS 1 hts gX0_covering_X0_middle rfl rfl rfl (by decide +kernel) ⟨Nat.le_of_ble_eq_true rfl, Nat.le_of_ble_eq_true rfl⟩) pb_preS rfl rfl hl.1 rfl (lv_room (Nat.le_of_ble_eq_true rfl)) dX0_covering_22 ⟨Nat.zero_le _, Nat.zero_le _⟩) ?_
      refine pb_call (W.runV (As := [.int (nI (j)), .long (pb_mid xi), .long (pb_mid yi)]) (rest := []) ⟨hx, hb, hml, hown, hts⟩ (cC_covers l dC dI h0 h1 h2 h3 k1 k2 k3 X Y Z n j (by omega) (pb_mid xi) (pb_mid yi)) (cwV 3 hts gX0_covering_X0_covers rfl rfl rfl (by decide +kernel) ⟨Nat.le_of_ble_eq_true rfl, Nat.le_of_ble_eq_true rfl⟩) (preC_V hP hK _) rfl rfl hl.1 rfl (lv_room (Nat.le_of_ble_eq_true rfl)) dX0_covering_25 ⟨Nat.zero_le _, Nat.zero_le _⟩) ?_
      refine lv_if_eq (tgt := 34) hx hb dX0_covering_28 (by decide) (fun q2 => ?_) (fun q2 => ?_)
      · -- not covered
        have q2 := pb_b_eq q2
        refine lv_iinc (v := (nI (j + 1))) (lv' := [(4, .int (nI (j + 1))), (3, .int (pb_cv X Y (pb_mid xi) (pb_mid yi) j)), (0, .ref h0), (1, .int (xi)), (2, .int (yi))]) hx hb dX0_covering_34 hl (k := 0) rfl (by exact (nI_1 (j))) (by decide) rfl (fun ls hl => ?_)
        refine lv_goto (tgt := 5) hx hb dX0_covering_37 (by decide) ?_
        have hst : pb_cv X Y (pb_mid xi) (pb_mid yi) (j + 1) = _ := if_neg (by rw [q2]; decide)
        exact ih (j + 1) (by omega) ls (by rw [hst]; exact lv_sub hl [0, 1, 2, 3, 4] rfl)
      · -- covered
        have q2 := pb_b_ne q2
        refine lv_iinc (v := (pb_cv X Y (pb_mid xi) (pb_mid yi) j + 1)) (lv' := [(3, .int (pb_cv X Y (pb_mid xi) (pb_mid yi) j + 1)), (4, .int (nI (j))), (0, .ref h0), (1, .int (xi)), (2, .int (yi))]) hx hb dX0_covering_31 hl (k := 1) rfl (by exact rfl) (by decide) rfl (fun ls hl => ?_)
        refine lv_iinc (v := (nI (j + 1))) (lv' := [(4, .int (nI (j + 1))), (3, .int (pb_cv X Y (pb_mid xi) (pb_mid yi) j + 1)), (0, .ref h0), (1, .int (xi)), (2, .int (yi))]) hx hb dX0_covering_34 hl (k := 1) rfl (by exact (nI_1 (j))) (by decide) rfl (fun ls hl => ?_)
        refine lv_goto (tgt := 5) hx hb dX0_covering_37 (by decide) ?_
        have hst : pb_cv X Y (pb_mid xi) (pb_mid yi) (j + 1) = _ := if_pos q2
        exact ih (j + 1) (by omega) ls (by rw [hst]; exact lv_sub hl [0, 1, 2, 3, 4] rfl)
set_option maxHeartbeats 4000000 in
set_option maxRecDepth 100000 in
/-- the next that covers it -/
theorem cC_next (l : Launch) (dC : Nat → ClassId) (dI : Nat → Nat → Nat) (h0 h1 h2 h3 : Nat) (k1 k2 k3 : ClassId) (X Y Z : Nat → Int32) (n : Nat) (hn : n ≤ 512) (xi yi fr : Int32) : Met l yX0_next wsX0_next (k2_rm 3 81) (va_Pc [.ref h0, .int (xi), .int (yi), .int (fr)] (preC dC dI h0 h1 h2 h3 k1 k2 k3 X Y Z n)) (k2_QcV (.int (pb_next X Y (pb_mid xi) (pb_mid yi) n fr))) 0 0 (fun _ => False) := by
  refine Met.ofW (cc := cX0_next) (maxL := 5) (ret := some .int) (by decide) rfl ?_
  intro p e s m args below meth c s₁ B hml hv
  obtain ⟨rfl, hP, hK⟩ := hv
  have hx := B.exec
  have hb := B.bytes
  have hr := B.returns
  have hts := atoms_spec (ws := wsX0_next) B.pre
  have hown : s.vm.findClass RX0 = some m.cls := findClass_of_methodNamed B.named
  have hlocks := B.notSynchronized
  have hin0 : ∀ w ∈ u_ws RX0 TX0 4, w ∈ wsX0_next := by decide +kernel
  have hl := lv_entry ([.ref h0, .int (xi), .int (yi), .int (fr)]) (n := 5) (Nat.le_of_ble_eq_true rfl)
  rw [lg_entry_eq]
  generalize (lg_sl ([.ref h0, .int (xi), .int (yi), .int (fr)]) ++ List.replicate (5 - (lg_sl ([.ref h0, .int (xi), .int (yi), .int (fr)])).length) Slot.unset).toArray = ls at hl ⊢
  have hl : lv_has ls 5 [(0, .ref h0), (1, .int (xi)), (2, .int (yi)), (3, .int (fr))] := hl
  refine lv_iload_n hx hb dX0_next_0 rfl (lv_at hl 3 rfl) ?_
  refine lv_iconst (v := 0) hx hb dX0_next_1 (by decide +kernel) ?_
  refine va_mmax hx hb (hml.trans hl.1.symm) hown (hts (.methodLink RX0 50 Lib.Math.max.name) (by decide +kernel)) (hts (.static Lib.Math.max.name) (by decide +kernel)) (hts (.initialized "java/lang/Math") (by decide +kernel)) (hts (.code Lib.Math.max.name Lib.Math.max.code 2 (some .int)) (List.mem_cons_of_mem _ (List.mem_append_left _ (List.mem_append_left _ (List.mem_of_getElem? (i := 3) rfl))))) (Nat.le_of_ble_eq_true rfl) (Nat.le_of_ble_eq_true rfl) (Nat.zero_le _) (Nat.zero_le _) dX0_next_2 ?_
  obtain ⟨i0, hi0, ei0⟩ := pb_max fr
  refine pb_eqi ei0 ?_
  refine lv_istore (lv' := [(4, .int (nI (i0))), (0, .ref h0), (1, .int (xi)), (2, .int (yi)), (3, .int (fr))]) hx hb dX0_next_5 hl (by decide) rfl (fun ls hl => ?_)
  suffices loop : ∀ (d j : Nat), j < 2 ^ 31 → n - j = d → pb_next X Y (pb_mid xi) (pb_mid yi) n fr = pb_nx X Y (pb_mid xi) (pb_mid yi) d j → ∀ ls : Array Slot, lv_has ls 5 [(4, .int (nI (j))), (0, .ref h0), (1, .int (xi)), (2, .int (yi))] → W p l e (headSpec wsX0_next (k2_rm 3 81)).room s m ([.ref h0, .int (xi), .int (yi), .int (fr)] : List Value).toArray below meth c s.heap [] 0 0 (MQ below (k2_QcV (.int (pb_next X Y (pb_mid xi) (pb_mid yi) n fr))) ([.ref h0, .int (xi), .int (yi), .int (fr)] : List Value).toArray s 0 0 (fun _ => False)) (F0 m 7 ls []) by
    exact loop _ i0 hi0 rfl (pb_next_of ei0 hi0) ls (lv_sub hl [0, 1, 2, 3] rfl)
  clear hl ls ei0 hi0
  intro d
  induction d with
  | zero =>
    intro j hj hd hv ls hl
    refine lv_iload hx hb dX0_next_7 (lv_at hl 0 rfl) ?_
    refine lv_aload_n hx hb dX0_next_9 rfl (lv_at hl 1 rfl) ?_
    refine va_get (D := (dC, dI)) (ci := 0) (v := .int (nI (n))) (C := RX0) (T := TX0) (N := 4) hx hb hts hin0 hown hK hP 0 rfl rfl 3 (by decide) (hts (.fieldLink RX0 19 "PieceBoxes" "pieces" "I") (by decide +kernel)) (fun _ h9 => h9) rfl dX0_next_10 ?_
    refine lv_icmp_ge (tgt := 42) hx hb dX0_next_13 (by decide) (fun q1 => ?_) (fun q1 => ?_)
    · -- the end
      refine lv_iconst (v := (-1)) hx hb dX0_next_42 (by decide +kernel) ?_
      exact W.iret (v := (-1)) hx hb hr (fun t ht hW => ⟨by rw [hv]; rfl, ht⟩) (fun q h => by cases h) dX0_next_43
    · exact absurd (nI_le (by omega) hj) q1
  | succ d ih =>
    intro j hj hd hv ls hl
    refine lv_iload hx hb dX0_next_7 (lv_at hl 0 rfl) ?_
    refine lv_aload_n hx hb dX0_next_9 rfl (lv_at hl 1 rfl) ?_
    refine va_get (D := (dC, dI)) (ci := 0) (v := .int (nI (n))) (C := RX0) (T := TX0) (N := 4) hx hb hts hin0 hown hK hP 0 rfl rfl 3 (by decide) (hts (.fieldLink RX0 19 "PieceBoxes" "pieces" "I") (by decide +kernel)) (fun _ h9 => h9) rfl dX0_next_10 ?_
    refine lv_icmp_ge (tgt := 42) hx hb dX0_next_13 (by decide) (fun q1 => ?_) (fun q1 => ?_)
    · exact absurd q1 (nI_ge (by omega) (by omega))
    · -- piece j
      refine lv_aload_n hx hb dX0_next_16 rfl (lv_at hl 1 rfl) ?_
      refine lv_iload hx hb dX0_next_17 (lv_at hl 0 rfl) ?_
      refine lv_iload_n hx hb dX0_next_19 rfl (lv_at hl 2 rfl) ?_
      refine pb_call (W.runS (As := [.int (xi)]) (rest := [.int (nI (j)), .ref h0]) ⟨hx, hb, hml, hown, hts⟩ (cC_middle l xi) (va_cwS 1 hts gX0_next_X0_middle rfl rfl rfl (by decide +kernel) ⟨Nat.le_of_ble_eq_true rfl, Nat.le_of_ble_eq_true rfl⟩) pb_preS rfl rfl hl.1 rfl (lv_room (Nat.le_of_ble_eq_true rfl)) dX0_next_20 ⟨Nat.zero_le _, Nat.zero_le _⟩) ?_
      refine lv_iload_n hx hb dX0_next_23 rfl (lv_at hl 3 rfl) ?_
      refine pb_call (W.runS (As := [.int (yi)]) (rest := [.long (pb_mid xi), .int (nI (j)), .ref h0]) ⟨hx, hb, hml, hown, hts⟩ (cC_middle l yi) (va_cwS 1 hts gX0_next_X0_middle rfl rfl rfl (by decide +kernel) ⟨Nat.le_of_ble_eq_true rfl, Nat.le_of_ble_eq_true rfl⟩) pb_preS rfl rfl hl.1 rfl (lv_room (Nat.le_of_ble_eq_true rfl)) dX0_next_24 ⟨Nat.zero_le _, Nat.zero_le _⟩) ?_
      refine pb_call (W.runV (As := [.int (nI (j)), .long (pb_mid xi), .long (pb_mid yi)]) (rest := []) ⟨hx, hb, hml, hown, hts⟩ (cC_covers l dC dI h0 h1 h2 h3 k1 k2 k3 X Y Z n j (by omega) (pb_mid xi) (pb_mid yi)) (cwV 3 hts gX0_next_X0_covers rfl rfl rfl (by decide +kernel) ⟨Nat.le_of_ble_eq_true rfl, Nat.le_of_ble_eq_true rfl⟩) (preC_V hP hK _) rfl rfl hl.1 rfl (lv_room (Nat.le_of_ble_eq_true rfl)) dX0_next_27 ⟨Nat.zero_le _, Nat.zero_le _⟩) ?_
      refine lv_if_eq (tgt := 36) hx hb dX0_next_30 (by decide) (fun q2 => ?_) (fun q2 => ?_)
      · -- not covered
        have q2 := pb_b_eq q2
        refine lv_iinc (v := (nI (j + 1))) (lv' := [(4, .int (nI (j + 1))), (0, .ref h0), (1, .int (xi)), (2, .int (yi))]) hx hb dX0_next_36 hl (k := 0) rfl (by exact (nI_1 (j))) (by decide) rfl (fun ls hl => ?_)
        refine lv_goto (tgt := 7) hx hb dX0_next_39 (by decide) ?_
        exact ih (j + 1) (by omega) (by omega) (by rw [hv]; exact if_neg (by rw [q2]; decide)) ls (lv_sub hl [0, 1, 2, 3] rfl)
      · -- covered
        have q2 := pb_b_ne q2
        refine lv_iload hx hb dX0_next_33 (lv_at hl 0 rfl) ?_
        exact W.iret (v := (nI (j))) hx hb hr (fun t ht hW => ⟨by rw [hv, show pb_nx X Y (pb_mid xi) (pb_mid yi) (d + 1) j = _ from if_pos q2], ht⟩) (fun q h => by cases h) dX0_next_35
