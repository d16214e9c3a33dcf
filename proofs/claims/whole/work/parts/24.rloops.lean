set_option maxHeartbeats 4000000 in
set_option maxRecDepth 100000 in
theorem cR_nearest (l : Launch) (dC : Nat → ClassId) (dI : Nat → Nat → Nat) (g0 g1 : Nat) (r1 : ClassId) (M : Nat → Int32) (n : Nat) (sz : Nat) (hn : n ≤ 512) (hI : ∀ j, j < n → pb_I1 M j) (xi yi : Int32) : Met l yX1_nearest wsX1_nearest ({ frames := 3, cells := 0, slots := 0, locals := 85 }) (va_Pc [.ref g0, .int (xi), .int (yi)] (fun U => U.heap.size = sz ∧ va_P (dC, dI) vwCl (wR g0 g1 r1 M n) U.heap ∧ va_K (dC, dI) vwCl (tR r1) U ∧ va_D (fun _ => True) (wR g0 g1 r1 M n))) (va_Qi (fun (r0 : Int32) (_ : Unit) => r0 = (pb_ns (pr0 M) (pr1 M) (pr2 M) xi yi n).1) (fun (_ : Unit) (t : State) => va_P (dC, dI) vwCl (wR g0 g1 r1 M n) t.heap ∧ va_D (va_A (wR g0 g1 r1 M n) sz) (wR g0 g1 r1 M n)) (va_A (wR g0 g1 r1 M n) sz)) 0 0 (va_A (wR g0 g1 r1 M n) sz) := by
  refine Met.ofW (cc := cX1_nearest) (maxL := 7) (ret := some .int) (by decide) rfl ?_
  intro p e s m args below meth c s₁ B hml hv
  obtain ⟨rfl, hsz, hP, hK, hD0⟩ := hv
  have hx := B.exec
  have hb := B.bytes
  have hr := B.returns
  have hts := atoms_spec (ws := wsX1_nearest) B.pre
  have hown : s.vm.findClass RX1 = some m.cls := findClass_of_methodNamed B.named
  have hlocks := B.notSynchronized
  have hin1 : ∀ w ∈ u_ws RX1 TX1 3, w ∈ wsX1_nearest := by decide +kernel
  subst hsz
  have hD := hD0.self (sz := s.heap.size)
  generalize hAe : va_A (wR g0 g1 r1 M n) s.heap.size = A at hD ⊢
  have hA : ∀ q : Nat, s.heap.size ≤ q → A q := fun q h => by rw [← hAe]; exact Or.inr h
  have hS : va_S A s.heap s.heap [] := va_S.rf
  have hl := lv_entry ([.ref g0, .int (xi), .int (yi)]) (n := 7) (Nat.le_of_ble_eq_true rfl)
  rw [lg_entry_eq]
  generalize (lg_sl ([.ref g0, .int (xi), .int (yi)]) ++ List.replicate (7 - (lg_sl ([.ref g0, .int (xi), .int (yi)])).length) Slot.unset).toArray = ls at hl ⊢
  have hl : lv_has ls 7 [(0, .ref g0), (1, .int (xi)), (2, .int (yi))] := hl
  refine lv_aload_n hx hb dX1_nearest_0 rfl (lv_at hl 0 rfl) ?_
  refine lv_iconst (v := nI 0) hx hb dX1_nearest_1 (by decide +kernel) ?_
  refine va_put (D := (dC, dI)) (ci := 1) (v := .int (nI (0))) (ty := .int) (C := RX1) (T := TX1) (N := 3) hx hb hts hin1 tyX1 tyX1_ok nmX1 hown hK hP hD hS 0 rfl rfl 0 (by decide) (hts (.fieldLink RX1 13 "PieceBoxesModel" "thrown" "I") (by decide +kernel)) (fun _ h9 => h9) rfl (by decide +kernel) rfl rfl (Nat.le_of_ble_eq_true rfl) dX1_nearest_2 (fun H locs hP hD hS => ?_)
  have hP : va_P (dC, dI) vwCl [(g0, .inr (1, [.int (nI (0)), .int (nI (n)), .ref g1])), (g1, .inl (r1, 4617, .inl (M)))] H := hP
  have hD : va_D A [(g0, .inr (1, [.int (nI (0)), .int (nI (n)), .ref g1])), (g1, .inl (r1, 4617, .inl (M)))] := hD
  refine lv_iconst (v := (-1)) hx hb dX1_nearest_5 (by decide +kernel) ?_
  refine lv_istore_n (lv' := [(3, .int (-1)), (0, .ref g0), (1, .int (xi)), (2, .int (yi))]) hx hb dX1_nearest_6 rfl hl (by decide) rfl (fun ls hl => ?_)
  refine lv_iconst (v := (-1)) hx hb dX1_nearest_7 (by decide +kernel) ?_
  refine lv_istore (lv' := [(4, .int (-1)), (3, .int (-1)), (0, .ref g0), (1, .int (xi)), (2, .int (yi))]) hx hb dX1_nearest_8 hl (by decide) rfl (fun ls hl => ?_)
  refine lv_iconst (v := nI 0) hx hb dX1_nearest_10 (by decide +kernel) ?_
  refine lv_istore (lv' := [(5, .int (nI (0))), (4, .int (-1)), (3, .int (-1)), (0, .ref g0), (1, .int (xi)), (2, .int (yi))]) hx hb dX1_nearest_11 hl (by decide) rfl (fun ls hl => ?_)
  suffices loop : ∀ (d j : Nat), j + d = n → ∀ ls : Array Slot, lv_has ls 7 [(5, .int (nI (j))), (3, .int ((pb_ns (pr0 M) (pr1 M) (pr2 M) xi yi j).1)), (4, .int ((pb_ns (pr0 M) (pr1 M) (pr2 M) xi yi j).2)), (0, .ref g0), (1, .int (xi)), (2, .int (yi))] → W p l e (headSpec wsX1_nearest ({ frames := 3, cells := 0, slots := 0, locals := 85 })).room s m ([.ref g0, .int (xi), .int (yi)] : List Value).toArray below meth c H locs 0 0 (MQ below (va_Qi (fun (r0 : Int32) (_ : Unit) => r0 = (pb_ns (pr0 M) (pr1 M) (pr2 M) xi yi n).1) (fun (_ : Unit) (t : State) => va_P (dC, dI) vwCl (wR g0 g1 r1 M n) t.heap ∧ va_D A (wR g0 g1 r1 M n)) A) ([.ref g0, .int (xi), .int (yi)] : List Value).toArray s 0 0 A) (F0 m 13 ls []) by
    exact loop n 0 (Nat.zero_add n) ls (lv_sub hl [0, 2, 1, 3, 4, 5] rfl)
  clear hl ls
  intro d
  induction d with
  | zero =>
    intro j hj ls hl
    have hj : j = n := by omega
    refine lv_iload hx hb dX1_nearest_13 (lv_at hl 0 rfl) ?_
    refine lv_aload_n hx hb dX1_nearest_15 rfl (lv_at hl 3 rfl) ?_
    refine va_get (D := (dC, dI)) (ci := 1) (v := .int (nI (n))) (C := RX1) (T := TX1) (N := 3) hx hb hts hin1 hown hK hP 0 rfl rfl 1 (by decide) (hts (.fieldLink RX1 22 "PieceBoxesModel" "many" "I") (by decide +kernel)) (fun _ h9 => h9) rfl dX1_nearest_16 ?_
    refine lv_icmp_ge (tgt := 68) hx hb dX1_nearest_19 (by decide) (fun q1 => ?_) (fun q1 => ?_)
    · -- the end
      refine lv_iload_n hx hb dX1_nearest_68 rfl (lv_at hl 1 rfl) ?_
      exact W.iret (v := ((pb_ns (pr0 M) (pr1 M) (pr2 M) xi yi j).1)) hx hb hr (fun t ht hW => ⟨⟨((pb_ns (pr0 M) (pr1 M) (pr2 M) xi yi j).1), (), rfl, by rw [hj], by rw [ht]; exact hP, by exact hD⟩, hS.F ht⟩) hS.2.2 dX1_nearest_69
    · exact absurd (nI_le (by omega) (by omega)) q1
  | succ d ih =>
    intro j hj ls hl
    refine lv_iload hx hb dX1_nearest_13 (lv_at hl 0 rfl) ?_
    refine lv_aload_n hx hb dX1_nearest_15 rfl (lv_at hl 3 rfl) ?_
    refine va_get (D := (dC, dI)) (ci := 1) (v := .int (nI (n))) (C := RX1) (T := TX1) (N := 3) hx hb hts hin1 hown hK hP 0 rfl rfl 1 (by decide) (hts (.fieldLink RX1 22 "PieceBoxesModel" "many" "I") (by decide +kernel)) (fun _ h9 => h9) rfl dX1_nearest_16 ?_
    refine lv_icmp_ge (tgt := 68) hx hb dX1_nearest_19 (by decide) (fun q1 => ?_) (fun q1 => ?_)
    · exact absurd q1 (nI_ge (by omega) (by omega))
    · -- piece j
      refine lv_aload_n hx hb dX1_nearest_22 rfl (lv_at hl 3 rfl) ?_
      refine lv_iload hx hb dX1_nearest_23 (lv_at hl 0 rfl) ?_
      refine lv_iload_n hx hb dX1_nearest_25 rfl (lv_at hl 4 rfl) ?_
      refine lv_iload_n hx hb dX1_nearest_26 rfl (lv_at hl 5 rfl) ?_
      refine pb_call (W.runV (As := [.int (nI (j)), .int (xi), .int (yi)]) (rest := []) ⟨hx, hb, hml, hown, hts⟩ (cR_nearAt l dC dI g0 g1 r1 M n j (by omega) xi yi (hI j (by omega))) (cwV 3 hts gX1_nearest_X1_nearAt rfl rfl rfl (by decide +kernel) ⟨Nat.le_of_ble_eq_true rfl, Nat.le_of_ble_eq_true rfl⟩) (preR_V hP hK _) rfl rfl hl.1 rfl (lv_room (Nat.le_of_ble_eq_true rfl)) dX1_nearest_27 ⟨Nat.zero_le _, Nat.zero_le _⟩) ?_
      refine lv_istore (lv' := [(6, .int (pb_nv (pr0 M) (pr1 M) (pr2 M) j xi yi)), (5, .int (nI (j))), (3, .int ((pb_ns (pr0 M) (pr1 M) (pr2 M) xi yi j).1)), (4, .int ((pb_ns (pr0 M) (pr1 M) (pr2 M) xi yi j).2)), (0, .ref g0), (1, .int (xi)), (2, .int (yi))]) hx hb dX1_nearest_30 hl (by decide) rfl (fun ls hl => ?_)
      refine lv_iload hx hb dX1_nearest_32 (lv_at hl 0 rfl) ?_
      refine lv_iload hx hb dX1_nearest_34 (lv_at hl 3 rfl) ?_
      refine lv_icmp_le (tgt := 44) hx hb dX1_nearest_36 (by decide) (fun q2 => ?_) (fun q2 => ?_)
      · -- not nearer
        refine lv_iload_n hx hb dX1_nearest_44 rfl (lv_at hl 2 rfl) ?_
        refine lv_istore_n (lv' := [(3, .int ((pb_ns (pr0 M) (pr1 M) (pr2 M) xi yi j).1)), (6, .int (pb_nv (pr0 M) (pr1 M) (pr2 M) j xi yi)), (5, .int (nI (j))), (4, .int ((pb_ns (pr0 M) (pr1 M) (pr2 M) xi yi j).2)), (0, .ref g0), (1, .int (xi)), (2, .int (yi))]) hx hb dX1_nearest_45 rfl hl (by decide) rfl (fun ls hl => ?_)
        refine lv_iload hx hb dX1_nearest_46 (lv_at hl 1 rfl) ?_
        refine lv_iload hx hb dX1_nearest_48 (lv_at hl 3 rfl) ?_
        refine lv_icmp_le (tgt := 58) hx hb dX1_nearest_50 (by decide) (fun q3 => ?_) (fun q3 => ?_)
        · -- nor here
          refine lv_iload hx hb dX1_nearest_58 (lv_at hl 3 rfl) ?_
          refine lv_istore (lv' := [(4, .int ((pb_ns (pr0 M) (pr1 M) (pr2 M) xi yi j).2)), (3, .int ((pb_ns (pr0 M) (pr1 M) (pr2 M) xi yi j).1)), (6, .int (pb_nv (pr0 M) (pr1 M) (pr2 M) j xi yi)), (5, .int (nI (j))), (0, .ref g0), (1, .int (xi)), (2, .int (yi))]) hx hb dX1_nearest_60 hl (by decide) rfl (fun ls hl => ?_)
          refine lv_iinc (v := (nI (j + 1))) (lv' := [(5, .int (nI (j + 1))), (4, .int ((pb_ns (pr0 M) (pr1 M) (pr2 M) xi yi j).2)), (3, .int ((pb_ns (pr0 M) (pr1 M) (pr2 M) xi yi j).1)), (6, .int (pb_nv (pr0 M) (pr1 M) (pr2 M) j xi yi)), (0, .ref g0), (1, .int (xi)), (2, .int (yi))]) hx hb dX1_nearest_62 hl (k := 3) rfl (by exact (nI_1 (j))) (by decide) rfl (fun ls hl => ?_)
          refine lv_goto (tgt := 13) hx hb dX1_nearest_65 (by decide) ?_
          have hst : pb_ns (pr0 M) (pr1 M) (pr2 M) xi yi (j + 1) = _ := if_neg (Int32.not_lt.mpr q2)
          exact ih (j + 1) (by omega) ls (by rw [hst]; exact lv_sub hl [0, 2, 1, 4, 5, 6] rfl)
        · exact absurd q2 q3
      · -- nearer
        refine lv_iload hx hb dX1_nearest_39 (lv_at hl 1 rfl) ?_
        refine lv_goto (tgt := 45) hx hb dX1_nearest_41 (by decide) ?_
        refine lv_istore_n (lv' := [(3, .int (nI (j))), (6, .int (pb_nv (pr0 M) (pr1 M) (pr2 M) j xi yi)), (5, .int (nI (j))), (4, .int ((pb_ns (pr0 M) (pr1 M) (pr2 M) xi yi j).2)), (0, .ref g0), (1, .int (xi)), (2, .int (yi))]) hx hb dX1_nearest_45 rfl hl (by decide) rfl (fun ls hl => ?_)
        refine lv_iload hx hb dX1_nearest_46 (lv_at hl 1 rfl) ?_
        refine lv_iload hx hb dX1_nearest_48 (lv_at hl 3 rfl) ?_
        refine lv_icmp_le (tgt := 58) hx hb dX1_nearest_50 (by decide) (fun q3 => ?_) (fun q3 => ?_)
        · exact absurd q3 q2
        · -- here too
          refine lv_iload hx hb dX1_nearest_53 (lv_at hl 1 rfl) ?_
          refine lv_goto (tgt := 60) hx hb dX1_nearest_55 (by decide) ?_
          refine lv_istore (lv' := [(4, .int (pb_nv (pr0 M) (pr1 M) (pr2 M) j xi yi)), (3, .int (nI (j))), (6, .int (pb_nv (pr0 M) (pr1 M) (pr2 M) j xi yi)), (5, .int (nI (j))), (0, .ref g0), (1, .int (xi)), (2, .int (yi))]) hx hb dX1_nearest_60 hl (by decide) rfl (fun ls hl => ?_)
          refine lv_iinc (v := (nI (j + 1))) (lv' := [(5, .int (nI (j + 1))), (4, .int (pb_nv (pr0 M) (pr1 M) (pr2 M) j xi yi)), (3, .int (nI (j))), (6, .int (pb_nv (pr0 M) (pr1 M) (pr2 M) j xi yi)), (0, .ref g0), (1, .int (xi)), (2, .int (yi))]) hx hb dX1_nearest_62 hl (k := 3) rfl (by exact (nI_1 (j))) (by decide) rfl (fun ls hl => ?_)
          refine lv_goto (tgt := 13) hx hb dX1_nearest_65 (by decide) ?_
          have hst : pb_ns (pr0 M) (pr1 M) (pr2 M) xi yi (j + 1) = _ := if_pos (Int32.not_le.mp q2)
          exact ih (j + 1) (by omega) ls (by rw [hst]; exact lv_sub hl [0, 2, 1, 4, 5, 6] rfl)
set_option maxHeartbeats 4000000 in
set_option maxRecDepth 100000 in
theorem cR_covering (l : Launch) (dC : Nat → ClassId) (dI : Nat → Nat → Nat) (g0 g1 : Nat) (r1 : ClassId) (M : Nat → Int32) (n : Nat) (sz : Nat) (hn : n ≤ 512) (hI : ∀ j, j < n → pb_I1 M j) (xi yi : Int32) : Met l yX1_covering wsX1_covering ({ frames := 3, cells := 0, slots := 0, locals := 85 }) (va_Pc [.ref g0, .int (xi), .int (yi)] (fun U => U.heap.size = sz ∧ va_P (dC, dI) vwCl (wR g0 g1 r1 M n) U.heap ∧ va_K (dC, dI) vwCl (tR r1) U ∧ va_D (fun _ => True) (wR g0 g1 r1 M n))) (va_Qi (fun (r0 : Int32) (_ : Unit) => r0 = pb_cv (pr0 M) (pr1 M) (pb_mid xi) (pb_mid yi) n) (fun (_ : Unit) (t : State) => va_P (dC, dI) vwCl (wR g0 g1 r1 M n) t.heap ∧ va_D (va_A (wR g0 g1 r1 M n) sz) (wR g0 g1 r1 M n)) (va_A (wR g0 g1 r1 M n) sz)) 0 0 (va_A (wR g0 g1 r1 M n) sz) := by
  refine Met.ofW (cc := cX1_covering) (maxL := 5) (ret := some .int) (by decide) rfl ?_
  intro p e s m args below meth c s₁ B hml hv
  obtain ⟨rfl, hsz, hP, hK, hD0⟩ := hv
  have hx := B.exec
  have hb := B.bytes
  have hr := B.returns
  have hts := atoms_spec (ws := wsX1_covering) B.pre
  have hown : s.vm.findClass RX1 = some m.cls := findClass_of_methodNamed B.named
  have hlocks := B.notSynchronized
  have hin1 : ∀ w ∈ u_ws RX1 TX1 3, w ∈ wsX1_covering := by decide +kernel
  subst hsz
  have hD := hD0.self (sz := s.heap.size)
  generalize hAe : va_A (wR g0 g1 r1 M n) s.heap.size = A at hD ⊢
  have hA : ∀ q : Nat, s.heap.size ≤ q → A q := fun q h => by rw [← hAe]; exact Or.inr h
  have hS : va_S A s.heap s.heap [] := va_S.rf
  have hl := lv_entry ([.ref g0, .int (xi), .int (yi)]) (n := 5) (Nat.le_of_ble_eq_true rfl)
  rw [lg_entry_eq]
  generalize (lg_sl ([.ref g0, .int (xi), .int (yi)]) ++ List.replicate (5 - (lg_sl ([.ref g0, .int (xi), .int (yi)])).length) Slot.unset).toArray = ls at hl ⊢
  have hl : lv_has ls 5 [(0, .ref g0), (1, .int (xi)), (2, .int (yi))] := hl
  refine lv_aload_n hx hb dX1_covering_0 rfl (lv_at hl 0 rfl) ?_
  refine lv_iconst (v := nI 0) hx hb dX1_covering_1 (by decide +kernel) ?_
  refine va_put (D := (dC, dI)) (ci := 1) (v := .int (nI (0))) (ty := .int) (C := RX1) (T := TX1) (N := 3) hx hb hts hin1 tyX1 tyX1_ok nmX1 hown hK hP hD hS 0 rfl rfl 0 (by decide) (hts (.fieldLink RX1 13 "PieceBoxesModel" "thrown" "I") (by decide +kernel)) (fun _ h9 => h9) rfl (by decide +kernel) rfl rfl (Nat.le_of_ble_eq_true rfl) dX1_covering_2 (fun H locs hP hD hS => ?_)
  have hP : va_P (dC, dI) vwCl [(g0, .inr (1, [.int (nI (0)), .int (nI (n)), .ref g1])), (g1, .inl (r1, 4617, .inl (M)))] H := hP
  have hD : va_D A [(g0, .inr (1, [.int (nI (0)), .int (nI (n)), .ref g1])), (g1, .inl (r1, 4617, .inl (M)))] := hD
  refine lv_iconst (v := 0) hx hb dX1_covering_5 (by decide +kernel) ?_
  refine lv_istore_n (lv' := [(3, .int (0)), (0, .ref g0), (1, .int (xi)), (2, .int (yi))]) hx hb dX1_covering_6 rfl hl (by decide) rfl (fun ls hl => ?_)
  refine lv_iconst (v := nI 0) hx hb dX1_covering_7 (by decide +kernel) ?_
  refine lv_istore (lv' := [(4, .int (nI (0))), (3, .int (0)), (0, .ref g0), (1, .int (xi)), (2, .int (yi))]) hx hb dX1_covering_8 hl (by decide) rfl (fun ls hl => ?_)
  suffices loop : ∀ (d j : Nat), j + d = n → ∀ ls : Array Slot, lv_has ls 5 [(4, .int (nI (j))), (3, .int (pb_cv (pr0 M) (pr1 M) (pb_mid xi) (pb_mid yi) j)), (0, .ref g0), (1, .int (xi)), (2, .int (yi))] → W p l e (headSpec wsX1_covering ({ frames := 3, cells := 0, slots := 0, locals := 85 })).room s m ([.ref g0, .int (xi), .int (yi)] : List Value).toArray below meth c H locs 0 0 (MQ below (va_Qi (fun (r0 : Int32) (_ : Unit) => r0 = pb_cv (pr0 M) (pr1 M) (pb_mid xi) (pb_mid yi) n) (fun (_ : Unit) (t : State) => va_P (dC, dI) vwCl (wR g0 g1 r1 M n) t.heap ∧ va_D A (wR g0 g1 r1 M n)) A) ([.ref g0, .int (xi), .int (yi)] : List Value).toArray s 0 0 A) (F0 m 10 ls []) by
    exact loop n 0 (Nat.zero_add n) ls (lv_sub hl [0, 1, 2, 3, 4] rfl)
  clear hl ls
  intro d
  induction d with
  | zero =>
    intro j hj ls hl
    have hj : j = n := by omega
    refine lv_iload hx hb dX1_covering_10 (lv_at hl 0 rfl) ?_
    refine lv_aload_n hx hb dX1_covering_12 rfl (lv_at hl 2 rfl) ?_
    refine va_get (D := (dC, dI)) (ci := 1) (v := .int (nI (n))) (C := RX1) (T := TX1) (N := 3) hx hb hts hin1 hown hK hP 0 rfl rfl 1 (by decide) (hts (.fieldLink RX1 22 "PieceBoxesModel" "many" "I") (by decide +kernel)) (fun _ h9 => h9) rfl dX1_covering_13 ?_
    refine lv_icmp_ge (tgt := 45) hx hb dX1_covering_16 (by decide) (fun q1 => ?_) (fun q1 => ?_)
    · -- the end
      refine lv_iload_n hx hb dX1_covering_45 rfl (lv_at hl 1 rfl) ?_
      exact W.iret (v := (pb_cv (pr0 M) (pr1 M) (pb_mid xi) (pb_mid yi) j)) hx hb hr (fun t ht hW => ⟨⟨(pb_cv (pr0 M) (pr1 M) (pb_mid xi) (pb_mid yi) j), (), rfl, by rw [hj], by rw [ht]; exact hP, by exact hD⟩, hS.F ht⟩) hS.2.2 dX1_covering_46
    · exact absurd (nI_le (by omega) (by omega)) q1
  | succ d ih =>
    intro j hj ls hl
    refine lv_iload hx hb dX1_covering_10 (lv_at hl 0 rfl) ?_
    refine lv_aload_n hx hb dX1_covering_12 rfl (lv_at hl 2 rfl) ?_
    refine va_get (D := (dC, dI)) (ci := 1) (v := .int (nI (n))) (C := RX1) (T := TX1) (N := 3) hx hb hts hin1 hown hK hP 0 rfl rfl 1 (by decide) (hts (.fieldLink RX1 22 "PieceBoxesModel" "many" "I") (by decide +kernel)) (fun _ h9 => h9) rfl dX1_covering_13 ?_
    refine lv_icmp_ge (tgt := 45) hx hb dX1_covering_16 (by decide) (fun q1 => ?_) (fun q1 => ?_)
    · exact absurd q1 (nI_ge (by omega) (by omega))
    · -- piece j
      refine lv_iload_n hx hb dX1_covering_19 rfl (lv_at hl 1 rfl) ?_
      refine lv_aload_n hx hb dX1_covering_20 rfl (lv_at hl 2 rfl) ?_
      refine lv_iload hx hb dX1_covering_21 (lv_at hl 0 rfl) ?_
      refine lv_iload_n hx hb dX1_covering_23 rfl (lv_at hl 3 rfl) ?_
      refine lv_iload_n hx hb dX1_covering_24 rfl (lv_at hl 4 rfl) ?_
      refine pb_call (W.runV (As := [.int (nI (j)), .int (xi), .int (yi)]) (rest := [.int (pb_cv (pr0 M) (pr1 M) (pb_mid xi) (pb_mid yi) j)]) ⟨hx, hb, hml, hown, hts⟩ (cR_nearAt l dC dI g0 g1 r1 M n j (by omega) xi yi (hI j (by omega))) (cwV 3 hts gX1_covering_X1_nearAt rfl rfl rfl (by decide +kernel) ⟨Nat.le_of_ble_eq_true rfl, Nat.le_of_ble_eq_true rfl⟩) (preR_V hP hK _) rfl rfl hl.1 rfl (lv_room (Nat.le_of_ble_eq_true rfl)) dX1_covering_25 ⟨Nat.zero_le _, Nat.zero_le _⟩) ?_
      refine lv_iconst (v := (-1)) hx hb dX1_covering_28 (by decide +kernel) ?_
      refine lv_icmp_ne (tgt := 36) hx hb dX1_covering_29 (by decide) (fun q2 => ?_) (fun q2 => ?_)
      · -- covered
        refine lv_iconst (v := 1) hx hb dX1_covering_36 (by decide +kernel) ?_
        refine lv_iadd hx hb dX1_covering_37 ?_
        refine lv_istore_n (lv' := [(3, .int ((pb_cv (pr0 M) (pr1 M) (pb_mid xi) (pb_mid yi) j + 1))), (4, .int (nI (j))), (0, .ref g0), (1, .int (xi)), (2, .int (yi))]) hx hb dX1_covering_38 rfl hl (by decide) rfl (fun ls hl => ?_)
        refine lv_iinc (v := (nI (j + 1))) (lv' := [(4, .int (nI (j + 1))), (3, .int ((pb_cv (pr0 M) (pr1 M) (pb_mid xi) (pb_mid yi) j + 1))), (0, .ref g0), (1, .int (xi)), (2, .int (yi))]) hx hb dX1_covering_39 hl (k := 1) rfl (by exact (nI_1 (j))) (by decide) rfl (fun ls hl => ?_)
        refine lv_goto (tgt := 10) hx hb dX1_covering_42 (by decide) ?_
        have hst : pb_cv (pr0 M) (pr1 M) (pb_mid xi) (pb_mid yi) (j + 1) = _ := if_pos (pb_nv_c (hI j (by omega)) q2)
        exact ih (j + 1) (by omega) ls (by rw [hst]; exact lv_sub hl [0, 1, 2, 3, 4] rfl)
      · -- not covered
        refine lv_iconst (v := 0) hx hb dX1_covering_32 (by decide +kernel) ?_
        refine lv_goto (tgt := 37) hx hb dX1_covering_33 (by decide) ?_
        refine lv_iadd hx hb dX1_covering_37 ?_
        refine pb_eqi (Int32.add_zero _) ?_
        refine lv_istore_n (lv' := [(3, .int (pb_cv (pr0 M) (pr1 M) (pb_mid xi) (pb_mid yi) j)), (4, .int (nI (j))), (0, .ref g0), (1, .int (xi)), (2, .int (yi))]) hx hb dX1_covering_38 rfl hl (by decide) rfl (fun ls hl => ?_)
        refine lv_iinc (v := (nI (j + 1))) (lv' := [(4, .int (nI (j + 1))), (3, .int (pb_cv (pr0 M) (pr1 M) (pb_mid xi) (pb_mid yi) j)), (0, .ref g0), (1, .int (xi)), (2, .int (yi))]) hx hb dX1_covering_39 hl (k := 1) rfl (by exact (nI_1 (j))) (by decide) rfl (fun ls hl => ?_)
        refine lv_goto (tgt := 10) hx hb dX1_covering_42 (by decide) ?_
        have hst : pb_cv (pr0 M) (pr1 M) (pb_mid xi) (pb_mid yi) (j + 1) = _ := if_neg (pb_nv_nc (hI j (by omega)) q2)
        exact ih (j + 1) (by omega) ls (by rw [hst]; exact lv_sub hl [0, 1, 2, 3, 4] rfl)
set_option maxHeartbeats 4000000 in
set_option maxRecDepth 100000 in
theorem cR_next (l : Launch) (dC : Nat → ClassId) (dI : Nat → Nat → Nat) (g0 g1 : Nat) (r1 : ClassId) (M : Nat → Int32) (n : Nat) (sz : Nat) (hn : n ≤ 512) (hI : ∀ j, j < n → pb_I1 M j) (xi yi fr : Int32) : Met l yX1_next wsX1_next ({ frames := 3, cells := 0, slots := 0, locals := 85 }) (va_Pc [.ref g0, .int (xi), .int (yi), .int (fr)] (fun U => U.heap.size = sz ∧ va_P (dC, dI) vwCl (wR g0 g1 r1 M n) U.heap ∧ va_K (dC, dI) vwCl (tR r1) U ∧ va_D (fun _ => True) (wR g0 g1 r1 M n))) (va_Qi (fun (r0 : Int32) (_ : Unit) => r0 = pb_next (pr0 M) (pr1 M) (pb_mid xi) (pb_mid yi) n fr) (fun (_ : Unit) (t : State) => va_P (dC, dI) vwCl (wR g0 g1 r1 M n) t.heap ∧ va_D (va_A (wR g0 g1 r1 M n) sz) (wR g0 g1 r1 M n)) (va_A (wR g0 g1 r1 M n) sz)) 0 0 (va_A (wR g0 g1 r1 M n) sz) := by
  refine Met.ofW (cc := cX1_next) (maxL := 5) (ret := some .int) (by decide) rfl ?_
  intro p e s m args below meth c s₁ B hml hv
  obtain ⟨rfl, hsz, hP, hK, hD0⟩ := hv
  have hx := B.exec
  have hb := B.bytes
  have hr := B.returns
  have hts := atoms_spec (ws := wsX1_next) B.pre
  have hown : s.vm.findClass RX1 = some m.cls := findClass_of_methodNamed B.named
  have hlocks := B.notSynchronized
  have hin1 : ∀ w ∈ u_ws RX1 TX1 3, w ∈ wsX1_next := by decide +kernel
  subst hsz
  have hD := hD0.self (sz := s.heap.size)
  generalize hAe : va_A (wR g0 g1 r1 M n) s.heap.size = A at hD ⊢
  have hA : ∀ q : Nat, s.heap.size ≤ q → A q := fun q h => by rw [← hAe]; exact Or.inr h
  have hS : va_S A s.heap s.heap [] := va_S.rf
  have hl := lv_entry ([.ref g0, .int (xi), .int (yi), .int (fr)]) (n := 5) (Nat.le_of_ble_eq_true rfl)
  rw [lg_entry_eq]
  generalize (lg_sl ([.ref g0, .int (xi), .int (yi), .int (fr)]) ++ List.replicate (5 - (lg_sl ([.ref g0, .int (xi), .int (yi), .int (fr)])).length) Slot.unset).toArray = ls at hl ⊢
  have hl : lv_has ls 5 [(0, .ref g0), (1, .int (xi)), (2, .int (yi)), (3, .int (fr))] := hl
  refine lv_aload_n hx hb dX1_next_0 rfl (lv_at hl 0 rfl) ?_
  refine lv_iconst (v := nI 0) hx hb dX1_next_1 (by decide +kernel) ?_
  refine va_put (D := (dC, dI)) (ci := 1) (v := .int (nI (0))) (ty := .int) (C := RX1) (T := TX1) (N := 3) hx hb hts hin1 tyX1 tyX1_ok nmX1 hown hK hP hD hS 0 rfl rfl 0 (by decide) (hts (.fieldLink RX1 13 "PieceBoxesModel" "thrown" "I") (by decide +kernel)) (fun _ h9 => h9) rfl (by decide +kernel) rfl rfl (Nat.le_of_ble_eq_true rfl) dX1_next_2 (fun H locs hP hD hS => ?_)
  have hP : va_P (dC, dI) vwCl [(g0, .inr (1, [.int (nI (0)), .int (nI (n)), .ref g1])), (g1, .inl (r1, 4617, .inl (M)))] H := hP
  have hD : va_D A [(g0, .inr (1, [.int (nI (0)), .int (nI (n)), .ref g1])), (g1, .inl (r1, 4617, .inl (M)))] := hD
  have loop : ∀ (d j : Nat), j < 2 ^ 31 → n - j = d → pb_next (pr0 M) (pr1 M) (pb_mid xi) (pb_mid yi) n fr = pb_nx (pr0 M) (pr1 M) (pb_mid xi) (pb_mid yi) d j → ∀ ls : Array Slot, lv_has ls 5 [(4, .int (nI (j))), (0, .ref g0), (1, .int (xi)), (2, .int (yi))] → W p l e (headSpec wsX1_next ({ frames := 3, cells := 0, slots := 0, locals := 85 })).room s m ([.ref g0, .int (xi), .int (yi), .int (fr)] : List Value).toArray below meth c H locs 0 0 (MQ below (va_Qi (fun (r0 : Int32) (_ : Unit) => r0 = pb_next (pr0 M) (pr1 M) (pb_mid xi) (pb_mid yi) n fr) (fun (_ : Unit) (t : State) => va_P (dC, dI) vwCl (wR g0 g1 r1 M n) t.heap ∧ va_D A (wR g0 g1 r1 M n)) A) ([.ref g0, .int (xi), .int (yi), .int (fr)] : List Value).toArray s 0 0 A) (F0 m 16 ls []) := by
    intro d
    induction d with
    | zero =>
      intro j hj hd hv ls hl
      refine lv_iload hx hb dX1_next_16 (lv_at hl 0 rfl) ?_
      refine lv_aload_n hx hb dX1_next_18 rfl (lv_at hl 1 rfl) ?_
      refine va_get (D := (dC, dI)) (ci := 1) (v := .int (nI (n))) (C := RX1) (T := TX1) (N := 3) hx hb hts hin1 hown hK hP 0 rfl rfl 1 (by decide) (hts (.fieldLink RX1 22 "PieceBoxesModel" "many" "I") (by decide +kernel)) (fun _ h9 => h9) rfl dX1_next_19 ?_
      refine lv_icmp_ge (tgt := 46) hx hb dX1_next_22 (by decide) (fun q1 => ?_) (fun q1 => ?_)
      · -- the end
        refine lv_iconst (v := (-1)) hx hb dX1_next_46 (by decide +kernel) ?_
        exact W.iret (v := (-1)) hx hb hr (fun t ht hW => ⟨⟨(-1), (), rfl, by rw [hv]; rfl, by rw [ht]; exact hP, by exact hD⟩, hS.F ht⟩) hS.2.2 dX1_next_47
      · exact absurd (nI_le (by omega) hj) q1
    | succ d ih =>
      intro j hj hd hv ls hl
      refine lv_iload hx hb dX1_next_16 (lv_at hl 0 rfl) ?_
      refine lv_aload_n hx hb dX1_next_18 rfl (lv_at hl 1 rfl) ?_
      refine va_get (D := (dC, dI)) (ci := 1) (v := .int (nI (n))) (C := RX1) (T := TX1) (N := 3) hx hb hts hin1 hown hK hP 0 rfl rfl 1 (by decide) (hts (.fieldLink RX1 22 "PieceBoxesModel" "many" "I") (by decide +kernel)) (fun _ h9 => h9) rfl dX1_next_19 ?_
      refine lv_icmp_ge (tgt := 46) hx hb dX1_next_22 (by decide) (fun q1 => ?_) (fun q1 => ?_)
      · exact absurd q1 (nI_ge (by omega) (by omega))
      · -- piece j
        refine lv_aload_n hx hb dX1_next_25 rfl (lv_at hl 1 rfl) ?_
        refine lv_iload hx hb dX1_next_26 (lv_at hl 0 rfl) ?_
        refine lv_iload_n hx hb dX1_next_28 rfl (lv_at hl 2 rfl) ?_
        refine lv_iload_n hx hb dX1_next_29 rfl (lv_at hl 3 rfl) ?_
        refine pb_call (W.runV (As := [.int (nI (j)), .int (xi), .int (yi)]) (rest := []) ⟨hx, hb, hml, hown, hts⟩ (cR_nearAt l dC dI g0 g1 r1 M n j (by omega) xi yi (hI j (by omega))) (cwV 3 hts gX1_next_X1_nearAt rfl rfl rfl (by decide +kernel) ⟨Nat.le_of_ble_eq_true rfl, Nat.le_of_ble_eq_true rfl⟩) (preR_V hP hK _) rfl rfl hl.1 rfl (lv_room (Nat.le_of_ble_eq_true rfl)) dX1_next_30 ⟨Nat.zero_le _, Nat.zero_le _⟩) ?_
        refine lv_iconst (v := (-1)) hx hb dX1_next_33 (by decide +kernel) ?_
        refine lv_icmp_eq (tgt := 40) hx hb dX1_next_34 (by decide) (fun q2 => ?_) (fun q2 => ?_)
        · -- not covered
          refine lv_iinc (v := (nI (j + 1))) (lv' := [(4, .int (nI (j + 1))), (0, .ref g0), (1, .int (xi)), (2, .int (yi))]) hx hb dX1_next_40 hl (k := 0) rfl (by exact (nI_1 (j))) (by decide) rfl (fun ls hl => ?_)
          refine lv_goto (tgt := 16) hx hb dX1_next_43 (by decide) ?_
          exact ih (j + 1) (by omega) (by omega) (by rw [hv]; exact if_neg (pb_nv_nc (hI j (by omega)) q2)) ls (lv_sub hl [0, 1, 2, 3] rfl)
        · -- covered
          refine lv_iload hx hb dX1_next_37 (lv_at hl 0 rfl) ?_
          exact W.iret (v := (nI (j))) hx hb hr (fun t ht hW => ⟨⟨(nI (j)), (), rfl, by rw [hv, show pb_nx (pr0 M) (pr1 M) (pb_mid xi) (pb_mid yi) (d + 1) j = _ from if_pos (pb_nv_c (hI j (by omega)) q2)], by rw [ht]; exact hP, by exact hD⟩, hS.F ht⟩) hS.2.2 dX1_next_39
  obtain ⟨i0, hi0, ei0⟩ := pb_max fr
  refine lv_iload_n hx hb dX1_next_5 rfl (lv_at hl 3 rfl) ?_
  refine lv_if_ge (tgt := 13) hx hb dX1_next_6 (by decide) (fun q1 => ?_) (fun q1 => ?_)
  · -- from 0 on
    have ei1 : fr = nI i0 := by rw [← ei0, if_neg (Int32.not_lt.mpr q1)]
    refine lv_iload_n hx hb dX1_next_13 rfl (lv_at hl 3 rfl) ?_
    refine pb_eqi ei1 ?_
    refine lv_istore (lv' := [(4, .int (nI (i0))), (0, .ref g0), (1, .int (xi)), (2, .int (yi)), (3, .int (fr))]) hx hb dX1_next_14 hl (by decide) rfl (fun ls hl => ?_)
    exact loop _ i0 hi0 rfl (pb_next_of ei0 hi0) ls (lv_sub hl [0, 1, 2, 3] rfl)
  · -- below 0
    have ei1 : (0 : Int32) = nI i0 := by rw [← ei0, if_pos (Int32.not_le.mp q1)]
    refine lv_iconst (v := 0) hx hb dX1_next_9 (by decide +kernel) ?_
    refine lv_goto (tgt := 14) hx hb dX1_next_10 (by decide) ?_
    refine pb_eqi ei1 ?_
    refine lv_istore (lv' := [(4, .int (nI (i0))), (0, .ref g0), (1, .int (xi)), (2, .int (yi)), (3, .int (fr))]) hx hb dX1_next_14 hl (by decide) rfl (fun ls hl => ?_)
    exact loop _ i0 hi0 rfl (pb_next_of ei0 hi0) ls (lv_sub hl [0, 1, 2, 3] rfl)
set_option maxHeartbeats 4000000 in
set_option maxRecDepth 100000 in
theorem cR_add (l : Launch) (dC : Nat → ClassId) (dI : Nat → Nat → Nat) (g0 g1 : Nat) (r1 : ClassId) (M : Nat → Int32) (n : Nat) (sz : Nat) (hn : n ≤ 512) : Met l yX1_add wsX1_add ({ frames := 2, cells := 0, slots := 0, locals := 47 }) (va_Pc [.ref g0] (fun U => U.heap.size = sz ∧ va_P (dC, dI) vwCl (wR g0 g1 r1 M n) U.heap ∧ va_K (dC, dI) vwCl (tR r1) U ∧ va_D (fun _ => True) (wR g0 g1 r1 M n))) (va_Qi (fun (r0 : Int32) (_ : Unit) => r0 = pb_if (pb_add (pr0 M) (pr1 M) n) (nI n) (-1)) (fun (_ : Unit) (t : State) => va_P (dC, dI) vwCl (wR g0 g1 r1 (pb_if (pb_add (pr0 M) (pr1 M) n) (pb_cq M n 9) M) (pb_if (pb_add (pr0 M) (pr1 M) n) (n + 1) n)) t.heap ∧ va_D (va_A (wR g0 g1 r1 M n) sz) (wR g0 g1 r1 (pb_if (pb_add (pr0 M) (pr1 M) n) (pb_cq M n 9) M) (pb_if (pb_add (pr0 M) (pr1 M) n) (n + 1) n))) (va_A (wR g0 g1 r1 M n) sz)) 0 0 (va_A (wR g0 g1 r1 M n) sz) := by
  refine Met.ofW (cc := cX1_add) (maxL := 2) (ret := some .int) (by decide) rfl ?_
  intro p e s m args below meth c s₁ B hml hv
  obtain ⟨rfl, hsz, hP, hK, hD0⟩ := hv
  have hx := B.exec
  have hb := B.bytes
  have hr := B.returns
  have hts := atoms_spec (ws := wsX1_add) B.pre
  have hown : s.vm.findClass RX1 = some m.cls := findClass_of_methodNamed B.named
  have hlocks := B.notSynchronized
  have hin1 : ∀ w ∈ u_ws RX1 TX1 3, w ∈ wsX1_add := by decide +kernel
  subst hsz
  have hD := hD0.self (sz := s.heap.size)
  generalize hAe : va_A (wR g0 g1 r1 M n) s.heap.size = A at hD ⊢
  have hA : ∀ q : Nat, s.heap.size ≤ q → A q := fun q h => by rw [← hAe]; exact Or.inr h
  have hS : va_S A s.heap s.heap [] := va_S.rf
  have hl := lv_entry ([.ref g0]) (n := 2) (Nat.le_of_ble_eq_true rfl)
  rw [lg_entry_eq]
  generalize (lg_sl ([.ref g0]) ++ List.replicate (2 - (lg_sl ([.ref g0])).length) Slot.unset).toArray = ls at hl ⊢
  have hl : lv_has ls 2 [(0, .ref g0)] := hl
  refine lv_aload_n hx hb dX1_add_0 rfl (lv_at hl 0 rfl) ?_
  refine lv_iconst (v := nI 0) hx hb dX1_add_1 (by decide +kernel) ?_
  refine va_put (D := (dC, dI)) (ci := 1) (v := .int (nI (0))) (ty := .int) (C := RX1) (T := TX1) (N := 3) hx hb hts hin1 tyX1 tyX1_ok nmX1 hown hK hP hD hS 0 rfl rfl 0 (by decide) (hts (.fieldLink RX1 13 "PieceBoxesModel" "thrown" "I") (by decide +kernel)) (fun _ h9 => h9) rfl (by decide +kernel) rfl rfl (Nat.le_of_ble_eq_true rfl) dX1_add_2 (fun H locs hP hD hS => ?_)
  have hP : va_P (dC, dI) vwCl [(g0, .inr (1, [.int (nI (0)), .int (nI (n)), .ref g1])), (g1, .inl (r1, 4617, .inl (M)))] H := hP
  have hD : va_D A [(g0, .inr (1, [.int (nI (0)), .int (nI (n)), .ref g1])), (g1, .inl (r1, 4617, .inl (M)))] := hD
  refine lv_aload_n hx hb dX1_add_5 rfl (lv_at hl 0 rfl) ?_
  refine va_get (D := (dC, dI)) (ci := 1) (v := .int (nI (n))) (C := RX1) (T := TX1) (N := 3) hx hb hts hin1 hown hK hP 0 rfl rfl 1 (by decide) (hts (.fieldLink RX1 22 "PieceBoxesModel" "many" "I") (by decide +kernel)) (fun _ h9 => h9) rfl dX1_add_6 ?_
  refine lv_sipush (v := nI 512) hx hb dX1_add_9 (by decide +kernel) ?_
  refine lv_icmp_eq (tgt := 27) hx hb dX1_add_12 (by decide) (fun q1 => ?_) (fun q1 => ?_)
  · -- full
    have q1 : n = 512 := (nI_eq (by omega) (by decide)).mp q1
    have hok : (pb_add (pr0 M) (pr1 M) n) = false := by simp [pb_add, q1]
    refine lv_iconst (v := (-1)) hx hb dX1_add_27 (by decide +kernel) ?_
    exact W.iret (v := (-1)) hx hb hr (fun t ht hW => ⟨⟨(-1), (), rfl, by rw [hok]; rfl, by rw [hok]; rw [ht]; exact hP, by rw [hok]; exact hD⟩, hS.F ht⟩) hS.2.2 dX1_add_28
  · -- room is left
    have q1 : n < 512 := by rcases Nat.lt_or_ge n 512 with h | h; exact h; exact absurd (congrArg nI (show n = 512 by omega)) q1
    refine lv_aload_n hx hb dX1_add_15 rfl (lv_at hl 0 rfl) ?_
    refine lv_sipush (v := nI 4608) hx hb dX1_add_16 (by decide +kernel) ?_
    refine pb_eqi (congrArg nI (show 4608 = 3 * (512 * 3) by omega)) ?_
    refine pb_call (W.runV (As := [.int (nI (3 * (512 * 3)))]) (rest := []) ⟨hx, hb, hml, hown, hts⟩ (cR_areaAt l dC dI g0 g1 r1 M n 512 (by decide)) (cwV 1 hts gX1_add_X1_areaAt rfl rfl rfl (by decide +kernel) ⟨Nat.le_of_ble_eq_true rfl, Nat.le_of_ble_eq_true rfl⟩) (preR_V hP hK _) rfl rfl hl.1 rfl (lv_room (Nat.le_of_ble_eq_true rfl)) dX1_add_19 ⟨Nat.zero_le _, Nat.zero_le _⟩) ?_
    refine lv_lconst (v := 0) hx hb dX1_add_22 (by decide +kernel) ?_
    refine W.lcmp hx hb dX1_add_23 ?_
    refine lv_if_gt (tgt := 29) hx hb dX1_add_24 (by decide) (fun q2 => ?_) (fun q2 => ?_)
    · -- an area
      have q2 := (lg_cmp_gt _ _).mp q2
      have hok : (pb_add (pr0 M) (pr1 M) n) = true := by simp [pb_add, q1, q2]
      refine lv_iconst (v := nI 0) hx hb dX1_add_29 (by decide +kernel) ?_
      refine lv_istore_n (lv' := [(1, .int (nI (0))), (0, .ref g0)]) hx hb dX1_add_30 rfl hl (by decide) rfl (fun ls hl => ?_)
      suffices loop : ∀ (d k : Nat), k + d = 9 → ∀ (H : Heap) (locs : List Loc), va_P (dC, dI) vwCl [(g0, .inr (1, [.int (nI (0)), .int (nI (n)), .ref g1])), (g1, .inl (r1, 4617, .inl (pb_cq M n k)))] H → va_D A [(g0, .inr (1, [.int (nI (0)), .int (nI (n)), .ref g1])), (g1, .inl (r1, 4617, .inl (pb_cq M n k)))] → va_S A s.heap H locs → ∀ ls : Array Slot, lv_has ls 2 [(1, .int (nI (k))), (0, .ref g0)] → W p l e (headSpec wsX1_add ({ frames := 2, cells := 0, slots := 0, locals := 47 })).room s m ([.ref g0] : List Value).toArray below meth c H locs 0 0 (MQ below (va_Qi (fun (r0 : Int32) (_ : Unit) => r0 = pb_if (pb_add (pr0 M) (pr1 M) n) (nI n) (-1)) (fun (_ : Unit) (t : State) => va_P (dC, dI) vwCl (wR g0 g1 r1 (pb_if (pb_add (pr0 M) (pr1 M) n) (pb_cq M n 9) M) (pb_if (pb_add (pr0 M) (pr1 M) n) (n + 1) n)) t.heap ∧ va_D A (wR g0 g1 r1 (pb_if (pb_add (pr0 M) (pr1 M) n) (pb_cq M n 9) M) (pb_if (pb_add (pr0 M) (pr1 M) n) (n + 1) n))) A) ([.ref g0] : List Value).toArray s 0 0 A) (F0 m 31 ls []) by
        exact loop 9 0 rfl H locs hP hD hS ls (lv_sub hl [0, 1] rfl)
      clear hl ls hP hD hS
      intro d
      induction d with
      | zero =>
        intro k hk H locs hP hD hS ls hl
        have hk9 : k = 9 := by omega
        refine lv_iload_n hx hb dX1_add_31 rfl (lv_at hl 0 rfl) ?_
        refine lv_bipush (v := nI 9) hx hb dX1_add_32 (by decide +kernel) ?_
        refine lv_icmp_ge (tgt := 67) hx hb dX1_add_34 (by decide) (fun q3 => ?_) (fun q3 => ?_)
        · -- all nine
          refine lv_aload_n hx hb dX1_add_67 rfl (lv_at hl 1 rfl) ?_
          refine lv_dup hx hb dX1_add_68 rfl ?_
          refine va_get (D := (dC, dI)) (ci := 1) (v := .int (nI (n))) (C := RX1) (T := TX1) (N := 3) hx hb hts hin1 hown hK hP 0 rfl rfl 1 (by decide) (hts (.fieldLink RX1 22 "PieceBoxesModel" "many" "I") (by decide +kernel)) (fun _ h9 => h9) rfl dX1_add_69 ?_
          refine lv_iconst (v := nI 1) hx hb dX1_add_72 (by decide +kernel) ?_
          refine lv_iadd hx hb dX1_add_73 ?_
          refine pb_eqi (nI_add _ _) ?_
          refine va_put (D := (dC, dI)) (ci := 1) (v := .int (nI (n + 1))) (ty := .int) (C := RX1) (T := TX1) (N := 3) hx hb hts hin1 tyX1 tyX1_ok nmX1 hown hK hP hD hS 0 rfl rfl 1 (by decide) (hts (.fieldLink RX1 22 "PieceBoxesModel" "many" "I") (by decide +kernel)) (fun _ h9 => h9) rfl (by decide +kernel) rfl rfl (Nat.le_of_ble_eq_true rfl) dX1_add_74 (fun H locs hP hD hS => ?_)
          have hP : va_P (dC, dI) vwCl [(g0, .inr (1, [.int (nI (0)), .int (nI (n + 1)), .ref g1])), (g1, .inl (r1, 4617, .inl (pb_cq M n k)))] H := hP
          have hD : va_D A [(g0, .inr (1, [.int (nI (0)), .int (nI (n + 1)), .ref g1])), (g1, .inl (r1, 4617, .inl (pb_cq M n k)))] := hD
          refine lv_aload_n hx hb dX1_add_77 rfl (lv_at hl 1 rfl) ?_
          refine va_get (D := (dC, dI)) (ci := 1) (v := .int (nI (n + 1))) (C := RX1) (T := TX1) (N := 3) hx hb hts hin1 hown hK hP 0 rfl rfl 1 (by decide) (hts (.fieldLink RX1 22 "PieceBoxesModel" "many" "I") (by decide +kernel)) (fun _ h9 => h9) rfl dX1_add_78 ?_
          refine lv_iconst (v := 1) hx hb dX1_add_81 (by decide +kernel) ?_
          refine lv_isub hx hb dX1_add_82 ?_
          refine pb_eqi (nI_pred _) ?_
          exact W.iret (v := (nI (n))) hx hb hr (fun t ht hW => ⟨⟨(nI (n)), (), rfl, by rw [hok]; rfl, by rw [hok, ← hk9]; rw [ht]; exact hP, by rw [hok, ← hk9]; exact hD⟩, hS.F ht⟩) hS.2.2 dX1_add_83
        · exact absurd (nI_le (by omega) (by omega)) q3
      | succ d ih =>
        intro k hk H locs hP hD hS ls hl
        refine lv_iload_n hx hb dX1_add_31 rfl (lv_at hl 0 rfl) ?_
        refine lv_bipush (v := nI 9) hx hb dX1_add_32 (by decide +kernel) ?_
        refine lv_icmp_ge (tgt := 67) hx hb dX1_add_34 (by decide) (fun q3 => ?_) (fun q3 => ?_)
        · exact absurd q3 (nI_ge (by omega) (by decide))
        · -- copy k
          refine lv_aload_n hx hb dX1_add_37 rfl (lv_at hl 1 rfl) ?_
          refine va_get (D := (dC, dI)) (ci := 1) (v := .ref g1) (C := RX1) (T := TX1) (N := 3) hx hb hts hin1 hown hK hP 0 rfl rfl 2 (by decide) (hts (.fieldLink RX1 7 "PieceBoxesModel" "corners" "[I") (by decide +kernel)) (fun _ h9 => h9) rfl dX1_add_38 ?_
          refine lv_bipush (v := nI 9) hx hb dX1_add_41 (by decide +kernel) ?_
          refine lv_aload_n hx hb dX1_add_43 rfl (lv_at hl 1 rfl) ?_
          refine va_get (D := (dC, dI)) (ci := 1) (v := .int (nI (n))) (C := RX1) (T := TX1) (N := 3) hx hb hts hin1 hown hK hP 0 rfl rfl 1 (by decide) (hts (.fieldLink RX1 22 "PieceBoxesModel" "many" "I") (by decide +kernel)) (fun _ h9 => h9) rfl dX1_add_44 ?_
          refine lv_imul hx hb dX1_add_47 ?_
          refine pb_eqi (pk_mul _ _) ?_
          refine lv_iload_n hx hb dX1_add_48 rfl (lv_at hl 0 rfl) ?_
          refine lv_iadd hx hb dX1_add_49 ?_
          refine pb_eqi (nI_add _ _) ?_
          refine lv_aload_n hx hb dX1_add_50 rfl (lv_at hl 1 rfl) ?_
          refine va_get (D := (dC, dI)) (ci := 1) (v := .ref g1) (C := RX1) (T := TX1) (N := 3) hx hb hts hin1 hown hK hP 0 rfl rfl 2 (by decide) (hts (.fieldLink RX1 7 "PieceBoxesModel" "corners" "[I") (by decide +kernel)) (fun _ h9 => h9) rfl dX1_add_51 ?_
          refine lv_sipush (v := nI 4608) hx hb dX1_add_54 (by decide +kernel) ?_
          refine lv_iload_n hx hb dX1_add_57 rfl (lv_at hl 0 rfl) ?_
          refine lv_iadd hx hb dX1_add_58 ?_
          refine pb_eqi (nI_add _ _) ?_
          refine pb_ald (j := 4608 + k) hx hb hK hP 1 0 rfl rfl (by omega) (by decide) dX1_add_59 ?_
          refine pb_ast (j := 9 * n + k) hx hb hK hP hD hS 1 0 rfl rfl (by omega) (by decide) dX1_add_60 (fun H locs hP hD hS => ?_)
          have hP : va_P (dC, dI) vwCl [(g0, .inr (1, [.int (nI (0)), .int (nI (n)), .ref g1])), (g1, .inl (r1, 4617, .inl (pb_cq M n (k + 1))))] H := hP
          have hD : va_D A [(g0, .inr (1, [.int (nI (0)), .int (nI (n)), .ref g1])), (g1, .inl (r1, 4617, .inl (pb_cq M n (k + 1))))] := hD
          refine lv_iinc (v := (nI (k + 1))) (lv' := [(1, .int (nI (k + 1))), (0, .ref g0)]) hx hb dX1_add_61 hl (k := 0) rfl (by exact (nI_1 (k))) (by decide) rfl (fun ls hl => ?_)
          refine lv_goto (tgt := 31) hx hb dX1_add_64 (by decide) ?_
          exact ih (k + 1) (by omega) H locs hP hD hS ls (lv_sub hl [0, 1] rfl)
    · -- no area
      have q2 : ¬ 0 < pb_ar (pr0 M) (pr1 M) 512 := fun h => q2 ((lg_cmp_gt _ _).mpr h)
      have hok : (pb_add (pr0 M) (pr1 M) n) = false := by simp [pb_add, q2]
      refine lv_iconst (v := (-1)) hx hb dX1_add_27 (by decide +kernel) ?_
      exact W.iret (v := (-1)) hx hb hr (fun t ht hW => ⟨⟨(-1), (), rfl, by rw [hok]; rfl, by rw [hok]; rw [ht]; exact hP, by rw [hok]; exact hD⟩, hS.F ht⟩) hS.2.2 dX1_add_28
