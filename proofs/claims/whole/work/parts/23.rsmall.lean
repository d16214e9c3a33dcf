set_option maxHeartbeats 4000000 in
set_option maxRecDepth 100000 in
theorem cR_clear (l : Launch) (dC : Nat → ClassId) (dI : Nat → Nat → Nat) (g0 g1 : Nat) (r1 : ClassId) (M : Nat → Int32) (n : Nat) (sz : Nat)  : Met l yX1_clear wsX1_clear ({ frames := 0, cells := 0, slots := 0, locals := 0 }) (va_Pc [.ref g0] (fun U => U.heap.size = sz ∧ va_P (dC, dI) vwCl (wR g0 g1 r1 M n) U.heap ∧ va_K (dC, dI) vwCl (tR r1) U ∧ va_D (fun _ => True) (wR g0 g1 r1 M n))) (va_Qv (fun (_ : Unit) => True) (fun (_ : Unit) (t : State) => va_P (dC, dI) vwCl (wR g0 g1 r1 M 0) t.heap ∧ va_D (va_A (wR g0 g1 r1 M n) sz) (wR g0 g1 r1 M 0)) (va_A (wR g0 g1 r1 M n) sz)) 0 0 (va_A (wR g0 g1 r1 M n) sz) := by
  refine Met.ofW (cc := cX1_clear) (maxL := 1) (ret := none) (by decide) rfl ?_
  intro p e s m args below meth c s₁ B hml hv
  obtain ⟨rfl, hsz, hP, hK, hD0⟩ := hv
  have hx := B.exec
  have hb := B.bytes
  have hr := B.returns
  have hts := atoms_spec (ws := wsX1_clear) B.pre
  have hown : s.vm.findClass RX1 = some m.cls := findClass_of_methodNamed B.named
  have hlocks := B.notSynchronized
  have hin1 : ∀ w ∈ u_ws RX1 TX1 3, w ∈ wsX1_clear := by decide +kernel
  subst hsz
  have hD := hD0.self (sz := s.heap.size)
  generalize hAe : va_A (wR g0 g1 r1 M n) s.heap.size = A at hD ⊢
  have hA : ∀ q : Nat, s.heap.size ≤ q → A q := fun q h => by rw [← hAe]; exact Or.inr h
  have hS : va_S A s.heap s.heap [] := va_S.rf
  have hl := lv_entry ([.ref g0]) (n := 1) (Nat.le_of_ble_eq_true rfl)
  rw [lg_entry_eq]
  generalize (lg_sl ([.ref g0]) ++ List.replicate (1 - (lg_sl ([.ref g0])).length) Slot.unset).toArray = ls at hl ⊢
  have hl : lv_has ls 1 [(0, .ref g0)] := hl
  refine lv_aload_n hx hb dX1_clear_0 rfl (lv_at hl 0 rfl) ?_
  refine lv_iconst (v := nI 0) hx hb dX1_clear_1 (by decide +kernel) ?_
  refine va_put (D := (dC, dI)) (ci := 1) (v := .int (nI (0))) (ty := .int) (C := RX1) (T := TX1) (N := 3) hx hb hts hin1 tyX1 tyX1_ok nmX1 hown hK hP hD hS 0 rfl rfl 0 (by decide) (hts (.fieldLink RX1 13 "PieceBoxesModel" "thrown" "I") (by decide +kernel)) (fun _ h9 => h9) rfl (by decide +kernel) rfl rfl (Nat.le_of_ble_eq_true rfl) dX1_clear_2 (fun H locs hP hD hS => ?_)
  have hP : va_P (dC, dI) vwCl [(g0, .inr (1, [.int (nI (0)), .int (nI (n)), .ref g1])), (g1, .inl (r1, 4617, .inl (M)))] H := hP
  have hD : va_D A [(g0, .inr (1, [.int (nI (0)), .int (nI (n)), .ref g1])), (g1, .inl (r1, 4617, .inl (M)))] := hD
  refine lv_aload_n hx hb dX1_clear_5 rfl (lv_at hl 0 rfl) ?_
  refine lv_iconst (v := nI 0) hx hb dX1_clear_6 (by decide +kernel) ?_
  refine va_put (D := (dC, dI)) (ci := 1) (v := .int (nI (0))) (ty := .int) (C := RX1) (T := TX1) (N := 3) hx hb hts hin1 tyX1 tyX1_ok nmX1 hown hK hP hD hS 0 rfl rfl 1 (by decide) (hts (.fieldLink RX1 22 "PieceBoxesModel" "many" "I") (by decide +kernel)) (fun _ h9 => h9) rfl (by decide +kernel) rfl rfl (Nat.le_of_ble_eq_true rfl) dX1_clear_7 (fun H locs hP hD hS => ?_)
  have hP : va_P (dC, dI) vwCl [(g0, .inr (1, [.int (nI (0)), .int (nI (0)), .ref g1])), (g1, .inl (r1, 4617, .inl (M)))] H := hP
  have hD : va_D A [(g0, .inr (1, [.int (nI (0)), .int (nI (0)), .ref g1])), (g1, .inl (r1, 4617, .inl (M)))] := hD
  exact W.vret hx hb hr (fun t ht hW => ⟨⟨(), rfl, trivial, by rw [ht]; exact hP, hD⟩, hS.F ht⟩) hS.2.2 dX1_clear_10
set_option maxHeartbeats 4000000 in
set_option maxRecDepth 100000 in
theorem cR_count (l : Launch) (dC : Nat → ClassId) (dI : Nat → Nat → Nat) (g0 g1 : Nat) (r1 : ClassId) (M : Nat → Int32) (n : Nat) (sz : Nat)  : Met l yX1_count wsX1_count ({ frames := 0, cells := 0, slots := 0, locals := 0 }) (va_Pc [.ref g0] (fun U => U.heap.size = sz ∧ va_P (dC, dI) vwCl (wR g0 g1 r1 M n) U.heap ∧ va_K (dC, dI) vwCl (tR r1) U ∧ va_D (fun _ => True) (wR g0 g1 r1 M n))) (va_Qi (fun (r0 : Int32) (_ : Unit) => r0 = nI n) (fun (_ : Unit) (t : State) => va_P (dC, dI) vwCl (wR g0 g1 r1 M n) t.heap ∧ va_D (va_A (wR g0 g1 r1 M n) sz) (wR g0 g1 r1 M n)) (va_A (wR g0 g1 r1 M n) sz)) 0 0 (va_A (wR g0 g1 r1 M n) sz) := by
  refine Met.ofW (cc := cX1_count) (maxL := 1) (ret := some .int) (by decide) rfl ?_
  intro p e s m args below meth c s₁ B hml hv
  obtain ⟨rfl, hsz, hP, hK, hD0⟩ := hv
  have hx := B.exec
  have hb := B.bytes
  have hr := B.returns
  have hts := atoms_spec (ws := wsX1_count) B.pre
  have hown : s.vm.findClass RX1 = some m.cls := findClass_of_methodNamed B.named
  have hlocks := B.notSynchronized
  have hin1 : ∀ w ∈ u_ws RX1 TX1 3, w ∈ wsX1_count := by decide +kernel
  subst hsz
  have hD := hD0.self (sz := s.heap.size)
  generalize hAe : va_A (wR g0 g1 r1 M n) s.heap.size = A at hD ⊢
  have hA : ∀ q : Nat, s.heap.size ≤ q → A q := fun q h => by rw [← hAe]; exact Or.inr h
  have hS : va_S A s.heap s.heap [] := va_S.rf
  have hl := lv_entry ([.ref g0]) (n := 1) (Nat.le_of_ble_eq_true rfl)
  rw [lg_entry_eq]
  generalize (lg_sl ([.ref g0]) ++ List.replicate (1 - (lg_sl ([.ref g0])).length) Slot.unset).toArray = ls at hl ⊢
  have hl : lv_has ls 1 [(0, .ref g0)] := hl
  refine lv_aload_n hx hb dX1_count_0 rfl (lv_at hl 0 rfl) ?_
  refine lv_iconst (v := nI 0) hx hb dX1_count_1 (by decide +kernel) ?_
  refine va_put (D := (dC, dI)) (ci := 1) (v := .int (nI (0))) (ty := .int) (C := RX1) (T := TX1) (N := 3) hx hb hts hin1 tyX1 tyX1_ok nmX1 hown hK hP hD hS 0 rfl rfl 0 (by decide) (hts (.fieldLink RX1 13 "PieceBoxesModel" "thrown" "I") (by decide +kernel)) (fun _ h9 => h9) rfl (by decide +kernel) rfl rfl (Nat.le_of_ble_eq_true rfl) dX1_count_2 (fun H locs hP hD hS => ?_)
  have hP : va_P (dC, dI) vwCl [(g0, .inr (1, [.int (nI (0)), .int (nI (n)), .ref g1])), (g1, .inl (r1, 4617, .inl (M)))] H := hP
  have hD : va_D A [(g0, .inr (1, [.int (nI (0)), .int (nI (n)), .ref g1])), (g1, .inl (r1, 4617, .inl (M)))] := hD
  refine lv_aload_n hx hb dX1_count_5 rfl (lv_at hl 0 rfl) ?_
  refine va_get (D := (dC, dI)) (ci := 1) (v := .int (nI (n))) (C := RX1) (T := TX1) (N := 3) hx hb hts hin1 hown hK hP 0 rfl rfl 1 (by decide) (hts (.fieldLink RX1 22 "PieceBoxesModel" "many" "I") (by decide +kernel)) (fun _ h9 => h9) rfl dX1_count_6 ?_
  exact W.iret (v := (nI (n))) hx hb hr (fun t ht hW => ⟨⟨(nI (n)), (), rfl, rfl, by rw [ht]; exact hP, by exact hD⟩, hS.F ht⟩) hS.2.2 dX1_count_9
set_option maxHeartbeats 4000000 in
set_option maxRecDepth 100000 in
theorem cR_area (l : Launch) (dC : Nat → ClassId) (dI : Nat → Nat → Nat) (g0 g1 : Nat) (r1 : ClassId) (M : Nat → Int32) (n : Nat) (sz : Nat) (hn : n ≤ 512) (a : Int32) : Met l yX1_area wsX1_area ({ frames := 2, cells := 0, slots := 0, locals := 47 }) (va_Pc [.ref g0, .int (a)] (fun U => U.heap.size = sz ∧ va_P (dC, dI) vwCl (wR g0 g1 r1 M n) U.heap ∧ va_K (dC, dI) vwCl (tR r1) U ∧ va_D (fun _ => True) (wR g0 g1 r1 M n))) (va_Qi (fun (r0 : Int32) (_ : Unit) => r0 = pb_area (pr0 M) (pr1 M) n a) (fun (_ : Unit) (t : State) => va_P (dC, dI) vwCl (wR g0 g1 r1 M n) t.heap ∧ va_D (va_A (wR g0 g1 r1 M n) sz) (wR g0 g1 r1 M n)) (va_A (wR g0 g1 r1 M n) sz)) 0 0 (va_A (wR g0 g1 r1 M n) sz) := by
  refine Met.ofW (cc := cX1_area) (maxL := 2) (ret := some .int) (by decide) rfl ?_
  intro p e s m args below meth c s₁ B hml hv
  obtain ⟨rfl, hsz, hP, hK, hD0⟩ := hv
  have hx := B.exec
  have hb := B.bytes
  have hr := B.returns
  have hts := atoms_spec (ws := wsX1_area) B.pre
  have hown : s.vm.findClass RX1 = some m.cls := findClass_of_methodNamed B.named
  have hlocks := B.notSynchronized
  have hin1 : ∀ w ∈ u_ws RX1 TX1 3, w ∈ wsX1_area := by decide +kernel
  subst hsz
  have hD := hD0.self (sz := s.heap.size)
  generalize hAe : va_A (wR g0 g1 r1 M n) s.heap.size = A at hD ⊢
  have hA : ∀ q : Nat, s.heap.size ≤ q → A q := fun q h => by rw [← hAe]; exact Or.inr h
  have hS : va_S A s.heap s.heap [] := va_S.rf
  have hl := lv_entry ([.ref g0, .int (a)]) (n := 2) (Nat.le_of_ble_eq_true rfl)
  rw [lg_entry_eq]
  generalize (lg_sl ([.ref g0, .int (a)]) ++ List.replicate (2 - (lg_sl ([.ref g0, .int (a)])).length) Slot.unset).toArray = ls at hl ⊢
  have hl : lv_has ls 2 [(0, .ref g0), (1, .int (a))] := hl
  refine lv_aload_n hx hb dX1_area_0 rfl (lv_at hl 0 rfl) ?_
  refine lv_iconst (v := nI 0) hx hb dX1_area_1 (by decide +kernel) ?_
  refine va_put (D := (dC, dI)) (ci := 1) (v := .int (nI (0))) (ty := .int) (C := RX1) (T := TX1) (N := 3) hx hb hts hin1 tyX1 tyX1_ok nmX1 hown hK hP hD hS 0 rfl rfl 0 (by decide) (hts (.fieldLink RX1 13 "PieceBoxesModel" "thrown" "I") (by decide +kernel)) (fun _ h9 => h9) rfl (by decide +kernel) rfl rfl (Nat.le_of_ble_eq_true rfl) dX1_area_2 (fun H locs hP hD hS => ?_)
  have hP : va_P (dC, dI) vwCl [(g0, .inr (1, [.int (nI (0)), .int (nI (n)), .ref g1])), (g1, .inl (r1, 4617, .inl (M)))] H := hP
  have hD : va_D A [(g0, .inr (1, [.int (nI (0)), .int (nI (n)), .ref g1])), (g1, .inl (r1, 4617, .inl (M)))] := hD
  refine lv_iload_n hx hb dX1_area_5 rfl (lv_at hl 1 rfl) ?_
  refine lv_if_lt (tgt := 29) hx hb dX1_area_6 (by decide) (fun q1 => ?_) (fun q1 => ?_)
  · -- negative
    refine lv_iconst (v := (-1)) hx hb dX1_area_29 (by decide +kernel) ?_
    exact W.iret (v := (-1)) hx hb hr (fun t ht hW => ⟨⟨(-1), (), rfl, by rw [show pb_area (pr0 M) (pr1 M) n a = _ from if_neg (by simp [pb_isP, Int32.not_le.mpr q1])], by rw [ht]; exact hP, by exact hD⟩, hS.F ht⟩) hS.2.2 dX1_area_30
  · -- not negative
    refine lv_iload_n hx hb dX1_area_9 rfl (lv_at hl 1 rfl) ?_
    refine lv_aload_n hx hb dX1_area_10 rfl (lv_at hl 0 rfl) ?_
    refine va_get (D := (dC, dI)) (ci := 1) (v := .int (nI (n))) (C := RX1) (T := TX1) (N := 3) hx hb hts hin1 hown hK hP 0 rfl rfl 1 (by decide) (hts (.fieldLink RX1 22 "PieceBoxesModel" "many" "I") (by decide +kernel)) (fun _ h9 => h9) rfl dX1_area_11 ?_
    refine lv_icmp_ge (tgt := 29) hx hb dX1_area_14 (by decide) (fun q2 => ?_) (fun q2 => ?_)
    · -- too great
      refine lv_iconst (v := (-1)) hx hb dX1_area_29 (by decide +kernel) ?_
      exact W.iret (v := (-1)) hx hb hr (fun t ht hW => ⟨⟨(-1), (), rfl, by rw [show pb_area (pr0 M) (pr1 M) n a = _ from if_neg (by simp [pb_isP, Int32.not_lt.mpr q2])], by rw [ht]; exact hP, by exact hD⟩, hS.F ht⟩) hS.2.2 dX1_area_30
    · -- a piece
      obtain ⟨j, hj31, rfl⟩ := nI_of q1
      have hj : j < n := Nat.not_le.mp (fun h => q2 (nI_le h hj31))
      refine lv_aload_n hx hb dX1_area_17 rfl (lv_at hl 0 rfl) ?_
      refine lv_bipush (v := nI 9) hx hb dX1_area_18 (by decide +kernel) ?_
      refine lv_iload_n hx hb dX1_area_20 rfl (lv_at hl 1 rfl) ?_
      refine lv_imul hx hb dX1_area_21 ?_
      refine pb_eqi (pk_mul _ _) ?_
      refine pb_eqi (congrArg nI (show 9 * j = 3 * (j * 3) by omega)) ?_
      refine pb_call (W.runV (As := [.int (nI (3 * (j * 3)))]) (rest := []) ⟨hx, hb, hml, hown, hts⟩ (cR_areaAt l dC dI g0 g1 r1 M n j (by omega)) (cwV 1 hts gX1_area_X1_areaAt rfl rfl rfl (by decide +kernel) ⟨Nat.le_of_ble_eq_true rfl, Nat.le_of_ble_eq_true rfl⟩) (preR_V hP hK _) rfl rfl hl.1 rfl (lv_room (Nat.le_of_ble_eq_true rfl)) dX1_area_22 ⟨Nat.zero_le _, Nat.zero_le _⟩) ?_
      refine lv_l2i (v := (pb_ar (pr0 M) (pr1 M) j).toInt32) hx hb dX1_area_25 rfl ?_
      refine lv_goto (tgt := 30) hx hb dX1_area_26 (by decide) ?_
      exact W.iret (v := ((pb_ar (pr0 M) (pr1 M) j).toInt32)) hx hb hr (fun t ht hW => ⟨⟨((pb_ar (pr0 M) (pr1 M) j).toInt32), (), rfl, by rw [pb_area_t hn hj], by rw [ht]; exact hP, by exact hD⟩, hS.F ht⟩) hS.2.2 dX1_area_30
set_option maxHeartbeats 4000000 in
set_option maxRecDepth 100000 in
theorem cR_near (l : Launch) (dC : Nat → ClassId) (dI : Nat → Nat → Nat) (g0 g1 : Nat) (r1 : ClassId) (M : Nat → Int32) (n : Nat) (sz : Nat) (hn : n ≤ 512) (hI : ∀ j, j < n → pb_I1 M j) (a xi yi : Int32) : Met l yX1_near wsX1_near ({ frames := 3, cells := 0, slots := 0, locals := 85 }) (va_Pc [.ref g0, .int (a), .int (xi), .int (yi)] (fun U => U.heap.size = sz ∧ va_P (dC, dI) vwCl (wR g0 g1 r1 M n) U.heap ∧ va_K (dC, dI) vwCl (tR r1) U ∧ va_D (fun _ => True) (wR g0 g1 r1 M n))) (va_Qi (fun (r0 : Int32) (_ : Unit) => r0 = pb_near (pr0 M) (pr1 M) (pr2 M) n a xi yi) (fun (_ : Unit) (t : State) => va_P (dC, dI) vwCl (wR g0 g1 r1 M n) t.heap ∧ va_D (va_A (wR g0 g1 r1 M n) sz) (wR g0 g1 r1 M n)) (va_A (wR g0 g1 r1 M n) sz)) 0 0 (va_A (wR g0 g1 r1 M n) sz) := by
  refine Met.ofW (cc := cX1_near) (maxL := 4) (ret := some .int) (by decide) rfl ?_
  intro p e s m args below meth c s₁ B hml hv
  obtain ⟨rfl, hsz, hP, hK, hD0⟩ := hv
  have hx := B.exec
  have hb := B.bytes
  have hr := B.returns
  have hts := atoms_spec (ws := wsX1_near) B.pre
  have hown : s.vm.findClass RX1 = some m.cls := findClass_of_methodNamed B.named
  have hlocks := B.notSynchronized
  have hin1 : ∀ w ∈ u_ws RX1 TX1 3, w ∈ wsX1_near := by decide +kernel
  subst hsz
  have hD := hD0.self (sz := s.heap.size)
  generalize hAe : va_A (wR g0 g1 r1 M n) s.heap.size = A at hD ⊢
  have hA : ∀ q : Nat, s.heap.size ≤ q → A q := fun q h => by rw [← hAe]; exact Or.inr h
  have hS : va_S A s.heap s.heap [] := va_S.rf
  have hl := lv_entry ([.ref g0, .int (a), .int (xi), .int (yi)]) (n := 4) (Nat.le_of_ble_eq_true rfl)
  rw [lg_entry_eq]
  generalize (lg_sl ([.ref g0, .int (a), .int (xi), .int (yi)]) ++ List.replicate (4 - (lg_sl ([.ref g0, .int (a), .int (xi), .int (yi)])).length) Slot.unset).toArray = ls at hl ⊢
  have hl : lv_has ls 4 [(0, .ref g0), (1, .int (a)), (2, .int (xi)), (3, .int (yi))] := hl
  refine lv_aload_n hx hb dX1_near_0 rfl (lv_at hl 0 rfl) ?_
  refine lv_iconst (v := nI 0) hx hb dX1_near_1 (by decide +kernel) ?_
  refine va_put (D := (dC, dI)) (ci := 1) (v := .int (nI (0))) (ty := .int) (C := RX1) (T := TX1) (N := 3) hx hb hts hin1 tyX1 tyX1_ok nmX1 hown hK hP hD hS 0 rfl rfl 0 (by decide) (hts (.fieldLink RX1 13 "PieceBoxesModel" "thrown" "I") (by decide +kernel)) (fun _ h9 => h9) rfl (by decide +kernel) rfl rfl (Nat.le_of_ble_eq_true rfl) dX1_near_2 (fun H locs hP hD hS => ?_)
  have hP : va_P (dC, dI) vwCl [(g0, .inr (1, [.int (nI (0)), .int (nI (n)), .ref g1])), (g1, .inl (r1, 4617, .inl (M)))] H := hP
  have hD : va_D A [(g0, .inr (1, [.int (nI (0)), .int (nI (n)), .ref g1])), (g1, .inl (r1, 4617, .inl (M)))] := hD
  refine lv_iload_n hx hb dX1_near_5 rfl (lv_at hl 1 rfl) ?_
  refine lv_if_lt (tgt := 27) hx hb dX1_near_6 (by decide) (fun q1 => ?_) (fun q1 => ?_)
  · -- negative
    refine lv_iconst (v := (-1)) hx hb dX1_near_27 (by decide +kernel) ?_
    exact W.iret (v := (-1)) hx hb hr (fun t ht hW => ⟨⟨(-1), (), rfl, by rw [show pb_near (pr0 M) (pr1 M) (pr2 M) n a xi yi = _ from if_neg (by simp [pb_isP, Int32.not_le.mpr q1])], by rw [ht]; exact hP, by exact hD⟩, hS.F ht⟩) hS.2.2 dX1_near_28
  · -- not negative
    refine lv_iload_n hx hb dX1_near_9 rfl (lv_at hl 1 rfl) ?_
    refine lv_aload_n hx hb dX1_near_10 rfl (lv_at hl 0 rfl) ?_
    refine va_get (D := (dC, dI)) (ci := 1) (v := .int (nI (n))) (C := RX1) (T := TX1) (N := 3) hx hb hts hin1 hown hK hP 0 rfl rfl 1 (by decide) (hts (.fieldLink RX1 22 "PieceBoxesModel" "many" "I") (by decide +kernel)) (fun _ h9 => h9) rfl dX1_near_11 ?_
    refine lv_icmp_ge (tgt := 27) hx hb dX1_near_14 (by decide) (fun q2 => ?_) (fun q2 => ?_)
    · -- too great
      refine lv_iconst (v := (-1)) hx hb dX1_near_27 (by decide +kernel) ?_
      exact W.iret (v := (-1)) hx hb hr (fun t ht hW => ⟨⟨(-1), (), rfl, by rw [show pb_near (pr0 M) (pr1 M) (pr2 M) n a xi yi = _ from if_neg (by simp [pb_isP, Int32.not_lt.mpr q2])], by rw [ht]; exact hP, by exact hD⟩, hS.F ht⟩) hS.2.2 dX1_near_28
    · -- a piece
      obtain ⟨j, hj31, rfl⟩ := nI_of q1
      have hj : j < n := Nat.not_le.mp (fun h => q2 (nI_le h hj31))
      refine lv_aload_n hx hb dX1_near_17 rfl (lv_at hl 0 rfl) ?_
      refine lv_iload_n hx hb dX1_near_18 rfl (lv_at hl 1 rfl) ?_
      refine lv_iload_n hx hb dX1_near_19 rfl (lv_at hl 2 rfl) ?_
      refine lv_iload_n hx hb dX1_near_20 rfl (lv_at hl 3 rfl) ?_
      refine pb_call (W.runV (As := [.int (nI (j)), .int (xi), .int (yi)]) (rest := []) ⟨hx, hb, hml, hown, hts⟩ (cR_nearAt l dC dI g0 g1 r1 M n j (by omega) xi yi (hI j hj)) (cwV 3 hts gX1_near_X1_nearAt rfl rfl rfl (by decide +kernel) ⟨Nat.le_of_ble_eq_true rfl, Nat.le_of_ble_eq_true rfl⟩) (preR_V hP hK _) rfl rfl hl.1 rfl (lv_room (Nat.le_of_ble_eq_true rfl)) dX1_near_21 ⟨Nat.zero_le _, Nat.zero_le _⟩) ?_
      refine lv_goto (tgt := 28) hx hb dX1_near_24 (by decide) ?_
      exact W.iret (v := (pb_nv (pr0 M) (pr1 M) (pr2 M) j xi yi)) hx hb hr (fun t ht hW => ⟨⟨(pb_nv (pr0 M) (pr1 M) (pr2 M) j xi yi), (), rfl, by rw [pb_near_t hn hj], by rw [ht]; exact hP, by exact hD⟩, hS.F ht⟩) hS.2.2 dX1_near_28
set_option maxHeartbeats 4000000 in
set_option maxRecDepth 100000 in
theorem cR_corner (l : Launch) (dC : Nat → ClassId) (dI : Nat → Nat → Nat) (g0 g1 : Nat) (r1 : ClassId) (M : Nat → Int32) (n : Nat) (sz : Nat) (ck cx cy cr : Int32) : Met l yX1_corner wsX1_corner ({ frames := 0, cells := 0, slots := 0, locals := 0 }) (va_Pc [.ref g0, .int (ck), .int (cx), .int (cy), .int (cr)] (fun U => U.heap.size = sz ∧ va_P (dC, dI) vwCl (wR g0 g1 r1 M n) U.heap ∧ va_K (dC, dI) vwCl (tR r1) U ∧ va_D (fun _ => True) (wR g0 g1 r1 M n))) (va_Qi (fun (r0 : Int32) (_ : Unit) => r0 = pb_b (pb_ok ck cx cy cr)) (fun (_ : Unit) (t : State) => va_P (dC, dI) vwCl (wR g0 g1 r1 (pb_mk (pb_ok ck cx cy cr) M (4608 + 3 * ck.toNatClampNeg) cx cy cr) n) t.heap ∧ va_D (va_A (wR g0 g1 r1 M n) sz) (wR g0 g1 r1 (pb_mk (pb_ok ck cx cy cr) M (4608 + 3 * ck.toNatClampNeg) cx cy cr) n)) (va_A (wR g0 g1 r1 M n) sz)) 0 0 (va_A (wR g0 g1 r1 M n) sz) := by
  refine Met.ofW (cc := cX1_corner) (maxL := 6) (ret := some .boolean) (by decide) rfl ?_
  intro p e s m args below meth c s₁ B hml hv
  obtain ⟨rfl, hsz, hP, hK, hD0⟩ := hv
  have hx := B.exec
  have hb := B.bytes
  have hr := B.returns
  have hts := atoms_spec (ws := wsX1_corner) B.pre
  have hown : s.vm.findClass RX1 = some m.cls := findClass_of_methodNamed B.named
  have hlocks := B.notSynchronized
  have hin1 : ∀ w ∈ u_ws RX1 TX1 3, w ∈ wsX1_corner := by decide +kernel
  subst hsz
  have hD := hD0.self (sz := s.heap.size)
  generalize hAe : va_A (wR g0 g1 r1 M n) s.heap.size = A at hD ⊢
  have hA : ∀ q : Nat, s.heap.size ≤ q → A q := fun q h => by rw [← hAe]; exact Or.inr h
  have hS : va_S A s.heap s.heap [] := va_S.rf
  have hl := lv_entry ([.ref g0, .int (ck), .int (cx), .int (cy), .int (cr)]) (n := 6) (Nat.le_of_ble_eq_true rfl)
  rw [lg_entry_eq]
  generalize (lg_sl ([.ref g0, .int (ck), .int (cx), .int (cy), .int (cr)]) ++ List.replicate (6 - (lg_sl ([.ref g0, .int (ck), .int (cx), .int (cy), .int (cr)])).length) Slot.unset).toArray = ls at hl ⊢
  have hl : lv_has ls 6 [(0, .ref g0), (1, .int (ck)), (2, .int (cx)), (3, .int (cy)), (4, .int (cr))] := hl
  refine lv_aload_n hx hb dX1_corner_0 rfl (lv_at hl 0 rfl) ?_
  refine lv_iconst (v := nI 0) hx hb dX1_corner_1 (by decide +kernel) ?_
  refine va_put (D := (dC, dI)) (ci := 1) (v := .int (nI (0))) (ty := .int) (C := RX1) (T := TX1) (N := 3) hx hb hts hin1 tyX1 tyX1_ok nmX1 hown hK hP hD hS 0 rfl rfl 0 (by decide) (hts (.fieldLink RX1 13 "PieceBoxesModel" "thrown" "I") (by decide +kernel)) (fun _ h9 => h9) rfl (by decide +kernel) rfl rfl (Nat.le_of_ble_eq_true rfl) dX1_corner_2 (fun H locs hP hD hS => ?_)
  have hP : va_P (dC, dI) vwCl [(g0, .inr (1, [.int (nI (0)), .int (nI (n)), .ref g1])), (g1, .inl (r1, 4617, .inl (M)))] H := hP
  have hD : va_D A [(g0, .inr (1, [.int (nI (0)), .int (nI (n)), .ref g1])), (g1, .inl (r1, 4617, .inl (M)))] := hD
  refine lv_iload_n hx hb dX1_corner_5 rfl (lv_at hl 1 rfl) ?_
  refine lv_if_lt (tgt := 59) hx hb dX1_corner_6 (by decide) (fun q1 => ?_) (fun q1 => ?_)
  · -- bad
    have hok : (pb_ok ck cx cy cr) = false := by simp [pb_ok, pb_grid, Int32.not_le.mpr q1]
    refine lv_iconst (v := 0) hx hb dX1_corner_59 (by decide +kernel) ?_
    refine lv_istore (lv' := [(5, .int (0)), (0, .ref g0), (1, .int (ck)), (2, .int (cx)), (3, .int (cy)), (4, .int (cr))]) hx hb dX1_corner_60 hl (by decide) rfl (fun ls hl => ?_)
    refine lv_iload hx hb dX1_corner_62 (lv_at hl 0 rfl) ?_
    refine lv_if_eq (tgt := 111) hx hb dX1_corner_64 (by decide) (fun q9 => ?_) (fun q9 => ?_)
    · -- no
      refine lv_iload hx hb dX1_corner_111 (lv_at hl 0 rfl) ?_
      exact W.zret (v := (0)) hx hb hr narrow_b0 (fun t ht hW => ⟨⟨(0), (), rfl, by rw [hok]; rfl, by rw [hok]; rw [ht]; exact hP, by rw [hok]; exact hD⟩, hS.F ht⟩) hS.2.2 dX1_corner_113
    · exact absurd rfl q9
  · -- good
    refine lv_iload_n hx hb dX1_corner_9 rfl (lv_at hl 1 rfl) ?_
    refine lv_iconst (v := nI 3) hx hb dX1_corner_10 (by decide +kernel) ?_
    refine lv_icmp_ge (tgt := 59) hx hb dX1_corner_11 (by decide) (fun q2 => ?_) (fun q2 => ?_)
    · -- bad
      have q2 : (3 : Int32) ≤ ck := q2
      have hok : (pb_ok ck cx cy cr) = false := by simp [pb_ok, pb_grid, Int32.not_lt.mpr q2]
      refine lv_iconst (v := 0) hx hb dX1_corner_59 (by decide +kernel) ?_
      refine lv_istore (lv' := [(5, .int (0)), (0, .ref g0), (1, .int (ck)), (2, .int (cx)), (3, .int (cy)), (4, .int (cr))]) hx hb dX1_corner_60 hl (by decide) rfl (fun ls hl => ?_)
      refine lv_iload hx hb dX1_corner_62 (lv_at hl 0 rfl) ?_
      refine lv_if_eq (tgt := 111) hx hb dX1_corner_64 (by decide) (fun q9 => ?_) (fun q9 => ?_)
      · -- no
        refine lv_iload hx hb dX1_corner_111 (lv_at hl 0 rfl) ?_
        exact W.zret (v := (0)) hx hb hr narrow_b0 (fun t ht hW => ⟨⟨(0), (), rfl, by rw [hok]; rfl, by rw [hok]; rw [ht]; exact hP, by rw [hok]; exact hD⟩, hS.F ht⟩) hS.2.2 dX1_corner_113
      · exact absurd rfl q9
    · -- good
      refine lv_iload_n hx hb dX1_corner_14 rfl (lv_at hl 2 rfl) ?_
      refine lv_sipush (v := (-4096)) hx hb dX1_corner_15 (by decide +kernel) ?_
      refine lv_icmp_lt (tgt := 59) hx hb dX1_corner_18 (by decide) (fun q3 => ?_) (fun q3 => ?_)
      · -- bad
        have hok : (pb_ok ck cx cy cr) = false := by simp [pb_ok, pb_grid, Int32.not_le.mpr q3]
        refine lv_iconst (v := 0) hx hb dX1_corner_59 (by decide +kernel) ?_
        refine lv_istore (lv' := [(5, .int (0)), (0, .ref g0), (1, .int (ck)), (2, .int (cx)), (3, .int (cy)), (4, .int (cr))]) hx hb dX1_corner_60 hl (by decide) rfl (fun ls hl => ?_)
        refine lv_iload hx hb dX1_corner_62 (lv_at hl 0 rfl) ?_
        refine lv_if_eq (tgt := 111) hx hb dX1_corner_64 (by decide) (fun q9 => ?_) (fun q9 => ?_)
        · -- no
          refine lv_iload hx hb dX1_corner_111 (lv_at hl 0 rfl) ?_
          exact W.zret (v := (0)) hx hb hr narrow_b0 (fun t ht hW => ⟨⟨(0), (), rfl, by rw [hok]; rfl, by rw [hok]; rw [ht]; exact hP, by rw [hok]; exact hD⟩, hS.F ht⟩) hS.2.2 dX1_corner_113
        · exact absurd rfl q9
      · -- good
        refine lv_iload_n hx hb dX1_corner_21 rfl (lv_at hl 2 rfl) ?_
        refine lv_sipush (v := 4096) hx hb dX1_corner_22 (by decide +kernel) ?_
        refine lv_icmp_gt (tgt := 59) hx hb dX1_corner_25 (by decide) (fun q4 => ?_) (fun q4 => ?_)
        · -- bad
          have hok : (pb_ok ck cx cy cr) = false := by simp [pb_ok, pb_grid, Int32.not_le.mpr q4]
          refine lv_iconst (v := 0) hx hb dX1_corner_59 (by decide +kernel) ?_
          refine lv_istore (lv' := [(5, .int (0)), (0, .ref g0), (1, .int (ck)), (2, .int (cx)), (3, .int (cy)), (4, .int (cr))]) hx hb dX1_corner_60 hl (by decide) rfl (fun ls hl => ?_)
          refine lv_iload hx hb dX1_corner_62 (lv_at hl 0 rfl) ?_
          refine lv_if_eq (tgt := 111) hx hb dX1_corner_64 (by decide) (fun q9 => ?_) (fun q9 => ?_)
          · -- no
            refine lv_iload hx hb dX1_corner_111 (lv_at hl 0 rfl) ?_
            exact W.zret (v := (0)) hx hb hr narrow_b0 (fun t ht hW => ⟨⟨(0), (), rfl, by rw [hok]; rfl, by rw [hok]; rw [ht]; exact hP, by rw [hok]; exact hD⟩, hS.F ht⟩) hS.2.2 dX1_corner_113
          · exact absurd rfl q9
        · -- good
          refine lv_iload_n hx hb dX1_corner_28 rfl (lv_at hl 3 rfl) ?_
          refine lv_sipush (v := (-4096)) hx hb dX1_corner_29 (by decide +kernel) ?_
          refine lv_icmp_lt (tgt := 59) hx hb dX1_corner_32 (by decide) (fun q5 => ?_) (fun q5 => ?_)
          · -- bad
            have hok : (pb_ok ck cx cy cr) = false := by simp [pb_ok, pb_grid, Int32.not_le.mpr q5]
            refine lv_iconst (v := 0) hx hb dX1_corner_59 (by decide +kernel) ?_
            refine lv_istore (lv' := [(5, .int (0)), (0, .ref g0), (1, .int (ck)), (2, .int (cx)), (3, .int (cy)), (4, .int (cr))]) hx hb dX1_corner_60 hl (by decide) rfl (fun ls hl => ?_)
            refine lv_iload hx hb dX1_corner_62 (lv_at hl 0 rfl) ?_
            refine lv_if_eq (tgt := 111) hx hb dX1_corner_64 (by decide) (fun q9 => ?_) (fun q9 => ?_)
            · -- no
              refine lv_iload hx hb dX1_corner_111 (lv_at hl 0 rfl) ?_
              exact W.zret (v := (0)) hx hb hr narrow_b0 (fun t ht hW => ⟨⟨(0), (), rfl, by rw [hok]; rfl, by rw [hok]; rw [ht]; exact hP, by rw [hok]; exact hD⟩, hS.F ht⟩) hS.2.2 dX1_corner_113
            · exact absurd rfl q9
          · -- good
            refine lv_iload_n hx hb dX1_corner_35 rfl (lv_at hl 3 rfl) ?_
            refine lv_sipush (v := 4096) hx hb dX1_corner_36 (by decide +kernel) ?_
            refine lv_icmp_gt (tgt := 59) hx hb dX1_corner_39 (by decide) (fun q6 => ?_) (fun q6 => ?_)
            · -- bad
              have hok : (pb_ok ck cx cy cr) = false := by simp [pb_ok, pb_grid, Int32.not_le.mpr q6]
              refine lv_iconst (v := 0) hx hb dX1_corner_59 (by decide +kernel) ?_
              refine lv_istore (lv' := [(5, .int (0)), (0, .ref g0), (1, .int (ck)), (2, .int (cx)), (3, .int (cy)), (4, .int (cr))]) hx hb dX1_corner_60 hl (by decide) rfl (fun ls hl => ?_)
              refine lv_iload hx hb dX1_corner_62 (lv_at hl 0 rfl) ?_
              refine lv_if_eq (tgt := 111) hx hb dX1_corner_64 (by decide) (fun q9 => ?_) (fun q9 => ?_)
              · -- no
                refine lv_iload hx hb dX1_corner_111 (lv_at hl 0 rfl) ?_
                exact W.zret (v := (0)) hx hb hr narrow_b0 (fun t ht hW => ⟨⟨(0), (), rfl, by rw [hok]; rfl, by rw [hok]; rw [ht]; exact hP, by rw [hok]; exact hD⟩, hS.F ht⟩) hS.2.2 dX1_corner_113
              · exact absurd rfl q9
            · -- good
              refine lv_iload hx hb dX1_corner_42 (lv_at hl 4 rfl) ?_
              refine lv_iconst (v := 1) hx hb dX1_corner_44 (by decide +kernel) ?_
              refine lv_icmp_lt (tgt := 59) hx hb dX1_corner_45 (by decide) (fun q7 => ?_) (fun q7 => ?_)
              · -- bad
                have hok : (pb_ok ck cx cy cr) = false := by simp [pb_ok, pb_grid, Int32.not_le.mpr q7]
                refine lv_iconst (v := 0) hx hb dX1_corner_59 (by decide +kernel) ?_
                refine lv_istore (lv' := [(5, .int (0)), (0, .ref g0), (1, .int (ck)), (2, .int (cx)), (3, .int (cy)), (4, .int (cr))]) hx hb dX1_corner_60 hl (by decide) rfl (fun ls hl => ?_)
                refine lv_iload hx hb dX1_corner_62 (lv_at hl 0 rfl) ?_
                refine lv_if_eq (tgt := 111) hx hb dX1_corner_64 (by decide) (fun q9 => ?_) (fun q9 => ?_)
                · -- no
                  refine lv_iload hx hb dX1_corner_111 (lv_at hl 0 rfl) ?_
                  exact W.zret (v := (0)) hx hb hr narrow_b0 (fun t ht hW => ⟨⟨(0), (), rfl, by rw [hok]; rfl, by rw [hok]; rw [ht]; exact hP, by rw [hok]; exact hD⟩, hS.F ht⟩) hS.2.2 dX1_corner_113
                · exact absurd rfl q9
              · -- good
                refine lv_iload hx hb dX1_corner_48 (lv_at hl 4 rfl) ?_
                refine lv_ldc (v := 1048576) hx hb hown (hts (.constant RX1 17 1048576) (by decide +kernel)) dX1_corner_50 ?_
                refine lv_icmp_gt (tgt := 59) hx hb dX1_corner_52 (by decide) (fun q8 => ?_) (fun q8 => ?_)
                · -- bad
                  have hok : (pb_ok ck cx cy cr) = false := by simp [pb_ok, pb_grid, Int32.not_le.mpr q8]
                  refine lv_iconst (v := 0) hx hb dX1_corner_59 (by decide +kernel) ?_
                  refine lv_istore (lv' := [(5, .int (0)), (0, .ref g0), (1, .int (ck)), (2, .int (cx)), (3, .int (cy)), (4, .int (cr))]) hx hb dX1_corner_60 hl (by decide) rfl (fun ls hl => ?_)
                  refine lv_iload hx hb dX1_corner_62 (lv_at hl 0 rfl) ?_
                  refine lv_if_eq (tgt := 111) hx hb dX1_corner_64 (by decide) (fun q9 => ?_) (fun q9 => ?_)
                  · -- no
                    refine lv_iload hx hb dX1_corner_111 (lv_at hl 0 rfl) ?_
                    exact W.zret (v := (0)) hx hb hr narrow_b0 (fun t ht hW => ⟨⟨(0), (), rfl, by rw [hok]; rfl, by rw [hok]; rw [ht]; exact hP, by rw [hok]; exact hD⟩, hS.F ht⟩) hS.2.2 dX1_corner_113
                  · exact absurd rfl q9
                · -- good
                  have q2 : ¬ (3 : Int32) ≤ ck := q2
                  have hok : (pb_ok ck cx cy cr) = true := by simp [pb_ok, pb_grid, Int32.not_lt.mp q1, Int32.not_le.mp q2, Int32.not_lt.mp q3, Int32.not_lt.mp q4, Int32.not_lt.mp q5, Int32.not_lt.mp q6, Int32.not_lt.mp q7, Int32.not_lt.mp q8]
                  obtain ⟨kn, hkn, ekn⟩ := nI_of q1
                  have hk3 : kn < 3 := Nat.not_le.mp (fun h => q2 (by rw [ekn]; exact nI_le h hkn))
                  have ecl : ck.toNatClampNeg = kn := by rw [ekn]; exact nI_clamp hkn
                  refine lv_iconst (v := 1) hx hb dX1_corner_55 (by decide +kernel) ?_
                  refine lv_goto (tgt := 60) hx hb dX1_corner_56 (by decide) ?_
                  refine lv_istore (lv' := [(5, .int (1)), (0, .ref g0), (1, .int (ck)), (2, .int (cx)), (3, .int (cy)), (4, .int (cr))]) hx hb dX1_corner_60 hl (by decide) rfl (fun ls hl => ?_)
                  refine lv_iload hx hb dX1_corner_62 (lv_at hl 0 rfl) ?_
                  refine lv_if_eq (tgt := 111) hx hb dX1_corner_64 (by decide) (fun q9 => ?_) (fun q9 => ?_)
                  · exact absurd q9 (by decide)
                  · -- it is set
                    rw [ekn] at hl
                    have hl : lv_has ls 6 [(5, .int (1)), (0, .ref g0), (1, .int (nI (kn))), (2, .int (cx)), (3, .int (cy)), (4, .int (cr))] := hl
                    refine lv_aload_n hx hb dX1_corner_67 rfl (lv_at hl 1 rfl) ?_
                    refine va_get (D := (dC, dI)) (ci := 1) (v := .ref g1) (C := RX1) (T := TX1) (N := 3) hx hb hts hin1 hown hK hP 0 rfl rfl 2 (by decide) (hts (.fieldLink RX1 7 "PieceBoxesModel" "corners" "[I") (by decide +kernel)) (fun _ h9 => h9) rfl dX1_corner_68 ?_
                    refine lv_sipush (v := nI 4608) hx hb dX1_corner_71 (by decide +kernel) ?_
                    refine lv_iconst (v := nI 3) hx hb dX1_corner_74 (by decide +kernel) ?_
                    refine lv_iload_n hx hb dX1_corner_75 rfl (lv_at hl 2 rfl) ?_
                    refine lv_imul hx hb dX1_corner_76 ?_
                    refine pb_eqi (pk_mul _ _) ?_
                    refine lv_iadd hx hb dX1_corner_77 ?_
                    refine pb_eqi (nI_add _ _) ?_
                    refine lv_iload_n hx hb dX1_corner_78 rfl (lv_at hl 3 rfl) ?_
                    refine pb_ast (j := 4608 + (3 * kn)) hx hb hK hP hD hS 1 0 rfl rfl (by omega) (by decide) dX1_corner_79 (fun H locs hP hD hS => ?_)
                    have hP : va_P (dC, dI) vwCl [(g0, .inr (1, [.int (nI (0)), .int (nI (n)), .ref g1])), (g1, .inl (r1, 4617, .inl (upd M (4608 + (3 * kn)) (cx))))] H := hP
                    have hD : va_D A [(g0, .inr (1, [.int (nI (0)), .int (nI (n)), .ref g1])), (g1, .inl (r1, 4617, .inl (upd M (4608 + (3 * kn)) (cx))))] := hD
                    refine lv_aload_n hx hb dX1_corner_80 rfl (lv_at hl 1 rfl) ?_
                    refine va_get (D := (dC, dI)) (ci := 1) (v := .ref g1) (C := RX1) (T := TX1) (N := 3) hx hb hts hin1 hown hK hP 0 rfl rfl 2 (by decide) (hts (.fieldLink RX1 7 "PieceBoxesModel" "corners" "[I") (by decide +kernel)) (fun _ h9 => h9) rfl dX1_corner_81 ?_
                    refine lv_sipush (v := nI 4608) hx hb dX1_corner_84 (by decide +kernel) ?_
                    refine lv_iconst (v := nI 3) hx hb dX1_corner_87 (by decide +kernel) ?_
                    refine lv_iload_n hx hb dX1_corner_88 rfl (lv_at hl 2 rfl) ?_
                    refine lv_imul hx hb dX1_corner_89 ?_
                    refine pb_eqi (pk_mul _ _) ?_
                    refine lv_iadd hx hb dX1_corner_90 ?_
                    refine pb_eqi (nI_add _ _) ?_
                    refine lv_iconst (v := nI 1) hx hb dX1_corner_91 (by decide +kernel) ?_
                    refine lv_iadd hx hb dX1_corner_92 ?_
                    refine pb_eqi (nI_add _ _) ?_
                    refine lv_iload_n hx hb dX1_corner_93 rfl (lv_at hl 4 rfl) ?_
                    refine pb_ast (j := 4608 + (3 * kn) + 1) hx hb hK hP hD hS 1 0 rfl rfl (by omega) (by decide) dX1_corner_94 (fun H locs hP hD hS => ?_)
                    have hP : va_P (dC, dI) vwCl [(g0, .inr (1, [.int (nI (0)), .int (nI (n)), .ref g1])), (g1, .inl (r1, 4617, .inl (upd (upd M (4608 + (3 * kn)) (cx)) (4608 + (3 * kn) + 1) (cy))))] H := hP
                    have hD : va_D A [(g0, .inr (1, [.int (nI (0)), .int (nI (n)), .ref g1])), (g1, .inl (r1, 4617, .inl (upd (upd M (4608 + (3 * kn)) (cx)) (4608 + (3 * kn) + 1) (cy))))] := hD
                    refine lv_aload_n hx hb dX1_corner_95 rfl (lv_at hl 1 rfl) ?_
                    refine va_get (D := (dC, dI)) (ci := 1) (v := .ref g1) (C := RX1) (T := TX1) (N := 3) hx hb hts hin1 hown hK hP 0 rfl rfl 2 (by decide) (hts (.fieldLink RX1 7 "PieceBoxesModel" "corners" "[I") (by decide +kernel)) (fun _ h9 => h9) rfl dX1_corner_96 ?_
                    refine lv_sipush (v := nI 4608) hx hb dX1_corner_99 (by decide +kernel) ?_
                    refine lv_iconst (v := nI 3) hx hb dX1_corner_102 (by decide +kernel) ?_
                    refine lv_iload_n hx hb dX1_corner_103 rfl (lv_at hl 2 rfl) ?_
                    refine lv_imul hx hb dX1_corner_104 ?_
                    refine pb_eqi (pk_mul _ _) ?_
                    refine lv_iadd hx hb dX1_corner_105 ?_
                    refine pb_eqi (nI_add _ _) ?_
                    refine lv_iconst (v := nI 2) hx hb dX1_corner_106 (by decide +kernel) ?_
                    refine lv_iadd hx hb dX1_corner_107 ?_
                    refine pb_eqi (nI_add _ _) ?_
                    refine lv_iload hx hb dX1_corner_108 (lv_at hl 5 rfl) ?_
                    refine pb_ast (j := 4608 + (3 * kn) + 2) hx hb hK hP hD hS 1 0 rfl rfl (by omega) (by decide) dX1_corner_110 (fun H locs hP hD hS => ?_)
                    have hP : va_P (dC, dI) vwCl [(g0, .inr (1, [.int (nI (0)), .int (nI (n)), .ref g1])), (g1, .inl (r1, 4617, .inl (upd (upd (upd M (4608 + (3 * kn)) (cx)) (4608 + (3 * kn) + 1) (cy)) (4608 + (3 * kn) + 2) (cr))))] H := hP
                    have hD : va_D A [(g0, .inr (1, [.int (nI (0)), .int (nI (n)), .ref g1])), (g1, .inl (r1, 4617, .inl (upd (upd (upd M (4608 + (3 * kn)) (cx)) (4608 + (3 * kn) + 1) (cy)) (4608 + (3 * kn) + 2) (cr))))] := hD
                    refine lv_iload hx hb dX1_corner_111 (lv_at hl 0 rfl) ?_
                    exact W.zret (v := (1)) hx hb hr narrow_b1 (fun t ht hW => ⟨⟨(1), (), rfl, by rw [hok]; rfl, by rw [hok, ecl]; rw [ht]; exact hP, by rw [hok, ecl]; exact hD⟩, hS.F ht⟩) hS.2.2 dX1_corner_113
