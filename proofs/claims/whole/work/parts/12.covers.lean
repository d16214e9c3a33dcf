set_option maxHeartbeats 4000000 in
set_option maxRecDepth 100000 in
/-- a piece covers a middle -/
theorem cC_covers (l : Launch) (dC : Nat → ClassId) (dI : Nat → Nat → Nat) (h0 h1 h2 h3 : Nat) (k1 k2 k3 : ClassId) (X Y Z : Nat → Int32) (n : Nat) (sl : Nat) (hs : sl ≤ 512) (x y : Int64) : Met l yX0_covers wsX0_covers (k2_rm 2 53) (va_Pc [.ref h0, .int (nI (sl)), .long (x), .long (y)] (preC dC dI h0 h1 h2 h3 k1 k2 k3 X Y Z n)) (k2_QcV (.int (pb_b (pb_cov X Y sl x y)))) 0 0 (fun _ => False) := by
  refine Met.ofW (cc := cX0_covers) (maxL := 9) (ret := some .boolean) (by decide) rfl ?_
  intro p e s m args below meth c s₁ B hml hv
  obtain ⟨rfl, hP, hK⟩ := hv
  have hx := B.exec
  have hb := B.bytes
  have hr := B.returns
  have hts := atoms_spec (ws := wsX0_covers) B.pre
  have hown : s.vm.findClass RX0 = some m.cls := findClass_of_methodNamed B.named
  have hlocks := B.notSynchronized
  have hin0 : ∀ w ∈ u_ws RX0 TX0 4, w ∈ wsX0_covers := by decide +kernel
  have hl := lv_entry ([.ref h0, .int (nI (sl)), .long (x), .long (y)]) (n := 9) (Nat.le_of_ble_eq_true rfl)
  rw [lg_entry_eq]
  generalize (lg_sl ([.ref h0, .int (nI (sl)), .long (x), .long (y)]) ++ List.replicate (9 - (lg_sl ([.ref h0, .int (nI (sl)), .long (x), .long (y)])).length) Slot.unset).toArray = ls at hl ⊢
  have hl : lv_has ls 9 [(0, .ref h0), (1, .int (nI (sl))), (2, .long (x)), (4, .long (y))] := hl
  refine lv_iconst (v := nI 0) hx hb dX0_covers_0 (by decide +kernel) ?_
  refine lv_istore (lv' := [(6, .int (nI (0))), (0, .ref h0), (1, .int (nI (sl))), (2, .long (x)), (4, .long (y))]) hx hb dX0_covers_1 hl (by decide) rfl (fun ls hl => ?_)
  suffices loop : ∀ (d k : Nat), k + d = 3 → (∀ j, j < k → pb_c1 X Y sl j x y = true) → ∀ ls : Array Slot, lv_has ls 9 [(6, .int (nI (k))), (0, .ref h0), (1, .int (nI (sl))), (2, .long (x)), (4, .long (y))] → W p l e (headSpec wsX0_covers (k2_rm 2 53)).room s m ([.ref h0, .int (nI (sl)), .long (x), .long (y)] : List Value).toArray below meth c s.heap [] 0 0 (MQ below (k2_QcV (.int (pb_b (pb_cov X Y sl x y)))) ([.ref h0, .int (nI (sl)), .long (x), .long (y)] : List Value).toArray s 0 0 (fun _ => False)) (F0 m 3 ls []) by
    exact loop 3 0 rfl (fun j h => absurd h (Nat.not_lt_zero j)) ls hl
  clear hl ls
  intro d
  induction d with
  | zero =>
    intro k hk hc ls hl
    have hk3 : k = 3 := by omega
    refine lv_iload hx hb dX0_covers_3 (lv_at hl 0 rfl) ?_
    refine lv_iconst (v := nI 3) hx hb dX0_covers_5 (by decide +kernel) ?_
    refine lv_icmp_ge (tgt := 53) hx hb dX0_covers_6 (by decide) (fun q1 => ?_) (fun q1 => ?_)
    · -- all three
      refine lv_iconst (v := 1) hx hb dX0_covers_53 (by decide +kernel) ?_
      exact W.zret (v := (1)) hx hb hr narrow_b1 (fun t ht hW => ⟨by rw [pb_cov_t (by rw [← hk3]; exact hc)]; rfl, ht⟩) (fun q h => by cases h) dX0_covers_54
    · exact absurd (nI_le (by omega) (by omega)) q1
  | succ d ih =>
    intro k hk hc ls hl
    refine lv_iload hx hb dX0_covers_3 (lv_at hl 0 rfl) ?_
    refine lv_iconst (v := nI 3) hx hb dX0_covers_5 (by decide +kernel) ?_
    refine lv_icmp_ge (tgt := 53) hx hb dX0_covers_6 (by decide) (fun q1 => ?_) (fun q1 => ?_)
    · exact absurd q1 (nI_ge (by omega) (by decide))
    · -- edge k
      refine lv_aload_n hx hb dX0_covers_9 rfl (lv_at hl 1 rfl) ?_
      refine lv_iload_n hx hb dX0_covers_10 rfl (lv_at hl 2 rfl) ?_
      refine lv_iload hx hb dX0_covers_11 (lv_at hl 0 rfl) ?_
      refine lv_lload_n hx hb dX0_covers_13 rfl (lv_at hl 3 rfl) ?_
      refine lv_lload hx hb dX0_covers_14 (lv_at hl 4 rfl) ?_
      refine pb_call (W.runV (As := [.int (nI (sl)), .int (nI (k)), .long (x), .long (y)]) (rest := []) ⟨hx, hb, hml, hown, hts⟩ (cC_edge l dC dI h0 h1 h2 h3 k1 k2 k3 X Y Z n sl k hs (by omega) x y) (cwV 4 hts gX0_covers_X0_edge rfl rfl rfl (by decide +kernel) ⟨Nat.le_of_ble_eq_true rfl, Nat.le_of_ble_eq_true rfl⟩) (preC_V hP hK _) rfl rfl hl.1 rfl (lv_room (Nat.le_of_ble_eq_true rfl)) dX0_covers_16 ⟨Nat.zero_le _, Nat.zero_le _⟩) ?_
      refine lv_lstore (lv' := [(7, .long (pb_e X Y sl k x y)), (6, .int (nI (k))), (0, .ref h0), (1, .int (nI (sl))), (2, .long (x)), (4, .long (y))]) hx hb dX0_covers_19 hl (by decide) rfl (fun ls hl => ?_)
      refine lv_lload hx hb dX0_covers_21 (lv_at hl 0 rfl) ?_
      refine lv_lconst (v := 0) hx hb dX0_covers_23 (by decide +kernel) ?_
      refine W.lcmp hx hb dX0_covers_24 ?_
      refine lv_if_lt (tgt := 45) hx hb dX0_covers_25 (by decide) (fun q2 => ?_) (fun q2 => ?_)
      · -- outside
        have q2 := (lg_cmp_lt _ _).mp q2
        refine lv_iconst (v := 0) hx hb dX0_covers_45 (by decide +kernel) ?_
        exact W.zret (v := (0)) hx hb hr narrow_b0 (fun t ht hW => ⟨by rw [pb_cov_f (k := k) (by omega) (by simp [pb_c1, q2])]; rfl, ht⟩) (fun q h => by cases h) dX0_covers_46
      · -- not outside
        have q2 : ¬ pb_e X Y sl k x y < 0 := fun h => q2 ((lg_cmp_lt _ _).mpr h)
        refine lv_lload hx hb dX0_covers_28 (lv_at hl 0 rfl) ?_
        refine lv_lconst (v := 0) hx hb dX0_covers_30 (by decide +kernel) ?_
        refine W.lcmp hx hb dX0_covers_31 ?_
        refine lv_if_ne (tgt := 47) hx hb dX0_covers_32 (by decide) (fun q3 => ?_) (fun q3 => ?_)
        · -- inside
          have q3 : ¬ pb_e X Y sl k x y = 0 := fun h => q3 ((lg_cmp_eq _ _).mpr h)
          refine lv_iinc (v := (nI (k + 1))) (lv' := [(6, .int (nI (k + 1))), (7, .long (pb_e X Y sl k x y)), (0, .ref h0), (1, .int (nI (sl))), (2, .long (x)), (4, .long (y))]) hx hb dX0_covers_47 hl (k := 1) rfl (by exact (nI_1 (k))) (by decide) rfl (fun ls hl => ?_)
          refine lv_goto (tgt := 3) hx hb dX0_covers_50 (by decide) ?_
          exact ih (k + 1) (by omega) (lt_s hc (by simp [pb_c1, q2, q3])) ls (lv_sub hl [0, 2, 3, 4, 5] rfl)
        · -- on the edge
          have q3 : pb_e X Y sl k x y = 0 := (lg_cmp_eq _ _).mp q3
          refine lv_aload_n hx hb dX0_covers_35 rfl (lv_at hl 2 rfl) ?_
          refine lv_iload_n hx hb dX0_covers_36 rfl (lv_at hl 3 rfl) ?_
          refine lv_iload hx hb dX0_covers_37 (lv_at hl 1 rfl) ?_
          refine pb_call (W.runV (As := [.int (nI (sl)), .int (nI (k))]) (rest := []) ⟨hx, hb, hml, hown, hts⟩ (cC_ownsEdge l dC dI h0 h1 h2 h3 k1 k2 k3 X Y Z n sl k hs (by omega)) (cwV 2 hts gX0_covers_X0_ownsEdge rfl rfl rfl (by decide +kernel) ⟨Nat.le_of_ble_eq_true rfl, Nat.le_of_ble_eq_true rfl⟩) (preC_V hP hK _) rfl rfl hl.1 rfl (lv_room (Nat.le_of_ble_eq_true rfl)) dX0_covers_39 ⟨Nat.zero_le _, Nat.zero_le _⟩) ?_
          refine lv_if_ne (tgt := 47) hx hb dX0_covers_42 (by decide) (fun q4 => ?_) (fun q4 => ?_)
          · -- its own
            have q4 := pb_b_ne q4
            refine lv_iinc (v := (nI (k + 1))) (lv' := [(6, .int (nI (k + 1))), (7, .long (pb_e X Y sl k x y)), (0, .ref h0), (1, .int (nI (sl))), (2, .long (x)), (4, .long (y))]) hx hb dX0_covers_47 hl (k := 1) rfl (by exact (nI_1 (k))) (by decide) rfl (fun ls hl => ?_)
            refine lv_goto (tgt := 3) hx hb dX0_covers_50 (by decide) ?_
            exact ih (k + 1) (by omega) (lt_s hc (by simp [pb_c1, q2, q4])) ls (lv_sub hl [0, 2, 3, 4, 5] rfl)
          · -- not its own
            have q4 := pb_b_eq q4
            refine lv_iconst (v := 0) hx hb dX0_covers_45 (by decide +kernel) ?_
            exact W.zret (v := (0)) hx hb hr narrow_b0 (fun t ht hW => ⟨by rw [pb_cov_f (k := k) (by omega) (by simp [pb_c1, q3, q4])]; rfl, ht⟩) (fun q h => by cases h) dX0_covers_46
set_option maxHeartbeats 4000000 in
set_option maxRecDepth 100000 in
/-- the nearness of a piece -/
theorem cC_nearnessOf (l : Launch) (dC : Nat → ClassId) (dI : Nat → Nat → Nat) (h0 h1 h2 h3 : Nat) (k1 k2 k3 : ClassId) (X Y Z : Nat → Int32) (n : Nat) (sl : Nat) (hs : sl ≤ 512) (x y : Int64) : Met l yX0_nearnessOf wsX0_nearnessOf (k2_rm 3 75) (va_Pc [.ref h0, .int (nI (sl)), .long (x), .long (y)] (preC dC dI h0 h1 h2 h3 k1 k2 k3 X Y Z n)) (k2_QcV (.int (pb_nn X Y Z sl x y))) 0 0 (fun _ => False) := by
  refine Met.ofW (cc := cX0_nearnessOf) (maxL := 10) (ret := some .int) (by decide) rfl ?_
  intro p e s m args below meth c s₁ B hml hv
  obtain ⟨rfl, hP, hK⟩ := hv
  have hx := B.exec
  have hb := B.bytes
  have hr := B.returns
  have hts := atoms_spec (ws := wsX0_nearnessOf) B.pre
  have hown : s.vm.findClass RX0 = some m.cls := findClass_of_methodNamed B.named
  have hlocks := B.notSynchronized
  have hin0 : ∀ w ∈ u_ws RX0 TX0 4, w ∈ wsX0_nearnessOf := by decide +kernel
  have hl := lv_entry ([.ref h0, .int (nI (sl)), .long (x), .long (y)]) (n := 10) (Nat.le_of_ble_eq_true rfl)
  rw [lg_entry_eq]
  generalize (lg_sl ([.ref h0, .int (nI (sl)), .long (x), .long (y)]) ++ List.replicate (10 - (lg_sl ([.ref h0, .int (nI (sl)), .long (x), .long (y)])).length) Slot.unset).toArray = ls at hl ⊢
  have hl : lv_has ls 10 [(0, .ref h0), (1, .int (nI (sl))), (2, .long (x)), (4, .long (y))] := hl
  refine lv_lconst (v := 0) hx hb dX0_nearnessOf_0 (by decide +kernel) ?_
  refine lv_lstore (lv' := [(6, .long (0)), (0, .ref h0), (1, .int (nI (sl))), (2, .long (x)), (4, .long (y))]) hx hb dX0_nearnessOf_1 hl (by decide) rfl (fun ls hl => ?_)
  refine lv_iconst (v := nI 0) hx hb dX0_nearnessOf_3 (by decide +kernel) ?_
  refine lv_istore (lv' := [(8, .int (nI (0))), (6, .long (0)), (0, .ref h0), (1, .int (nI (sl))), (2, .long (x)), (4, .long (y))]) hx hb dX0_nearnessOf_4 hl (by decide) rfl (fun ls hl => ?_)
  refine lv_iload hx hb dX0_nearnessOf_6 (lv_at hl 0 rfl) ?_
  refine lv_iconst (v := nI 3) hx hb dX0_nearnessOf_8 (by decide +kernel) ?_
  refine lv_icmp_ge (tgt := 46) hx hb dX0_nearnessOf_9 (by decide) (fun q0 => ?_) (fun q0 => ?_)
  · exact absurd q0 (nI_ge (by decide) (by decide))
  clear q0
  have hl : lv_has ls 10 [(8, .int (nI (0))), (6, .long (0)), (0, .ref h0), (1, .int (nI (sl))), (2, .long (x)), (4, .long (y))] := hl
  refine lv_lload hx hb dX0_nearnessOf_12 (lv_at hl 1 rfl) ?_
  refine lv_aload_n hx hb dX0_nearnessOf_14 rfl (lv_at hl 2 rfl) ?_
  refine lv_iload_n hx hb dX0_nearnessOf_15 rfl (lv_at hl 3 rfl) ?_
  refine lv_iload hx hb dX0_nearnessOf_16 (lv_at hl 0 rfl) ?_
  refine lv_lload_n hx hb dX0_nearnessOf_18 rfl (lv_at hl 4 rfl) ?_
  refine lv_lload hx hb dX0_nearnessOf_19 (lv_at hl 5 rfl) ?_
  refine pb_call (W.runV (As := [.int (nI (sl)), .int (nI (0)), .long (x), .long (y)]) (rest := [.long (0)]) ⟨hx, hb, hml, hown, hts⟩ (cC_edge l dC dI h0 h1 h2 h3 k1 k2 k3 X Y Z n sl 0 hs (by decide) x y) (cwV 4 hts gX0_nearnessOf_X0_edge rfl rfl rfl (by decide +kernel) ⟨Nat.le_of_ble_eq_true rfl, Nat.le_of_ble_eq_true rfl⟩) (preC_V hP hK _) rfl rfl hl.1 rfl (lv_room (Nat.le_of_ble_eq_true rfl)) dX0_nearnessOf_21 ⟨Nat.zero_le _, Nat.zero_le _⟩) ?_
  refine lv_aload_n hx hb dX0_nearnessOf_24 rfl (lv_at hl 2 rfl) ?_
  refine va_get (D := (dC, dI)) (ci := 0) (v := .ref h3) (C := RX0) (T := TX0) (N := 4) hx hb hts hin0 hown hK hP 0 rfl rfl 2 (by decide) (hts (.fieldLink RX0 16 "PieceBoxes" "rs" "[I") (by decide +kernel)) (fun _ h9 => h9) rfl dX0_nearnessOf_25 ?_
  refine lv_iload_n hx hb dX0_nearnessOf_28 rfl (lv_at hl 3 rfl) ?_
  refine lv_iconst (v := nI 3) hx hb dX0_nearnessOf_29 (by decide +kernel) ?_
  refine lv_imul hx hb dX0_nearnessOf_30 ?_
  refine pb_eqi (pk_mul _ _) ?_
  refine lv_iload hx hb dX0_nearnessOf_31 (lv_at hl 0 rfl) ?_
  refine lv_iadd hx hb dX0_nearnessOf_33 ?_
  refine pb_eqi (nI_add _ _) ?_
  refine pb_ald (j := sl * 3 + 0) hx hb hK hP 3 2 rfl rfl (by omega) (by decide) dX0_nearnessOf_34 ?_
  refine lv_i2l (v := (Z (sl * 3 + 0)).toInt64) hx hb dX0_nearnessOf_35 rfl ?_
  refine lv_lmul hx hb dX0_nearnessOf_36 ?_
  refine lv_ladd hx hb dX0_nearnessOf_37 ?_
  refine lv_lstore (lv' := [(6, .long ((0 + (pb_e X Y sl 0 x y * (Z (sl * 3 + 0)).toInt64)))), (8, .int (nI (0))), (0, .ref h0), (1, .int (nI (sl))), (2, .long (x)), (4, .long (y))]) hx hb dX0_nearnessOf_38 hl (by decide) rfl (fun ls hl => ?_)
  refine lv_iinc (v := (nI (0 + 1))) (lv' := [(8, .int (nI (0 + 1))), (6, .long ((0 + (pb_e X Y sl 0 x y * (Z (sl * 3 + 0)).toInt64)))), (0, .ref h0), (1, .int (nI (sl))), (2, .long (x)), (4, .long (y))]) hx hb dX0_nearnessOf_40 hl (k := 1) rfl (by exact (nI_1 (0))) (by decide) rfl (fun ls hl => ?_)
  refine lv_goto (tgt := 6) hx hb dX0_nearnessOf_43 (by decide) ?_
  refine lv_iload hx hb dX0_nearnessOf_6 (lv_at hl 0 rfl) ?_
  refine lv_iconst (v := nI 3) hx hb dX0_nearnessOf_8 (by decide +kernel) ?_
  refine lv_icmp_ge (tgt := 46) hx hb dX0_nearnessOf_9 (by decide) (fun q1 => ?_) (fun q1 => ?_)
  · exact absurd q1 (nI_ge (by decide) (by decide))
  clear q1
  have hl : lv_has ls 10 [(8, .int (nI (1))), (6, .long ((0 + (pb_e X Y sl 0 x y * (Z (sl * 3 + 0)).toInt64)))), (0, .ref h0), (1, .int (nI (sl))), (2, .long (x)), (4, .long (y))] := hl
  refine lv_lload hx hb dX0_nearnessOf_12 (lv_at hl 1 rfl) ?_
  refine lv_aload_n hx hb dX0_nearnessOf_14 rfl (lv_at hl 2 rfl) ?_
  refine lv_iload_n hx hb dX0_nearnessOf_15 rfl (lv_at hl 3 rfl) ?_
  refine lv_iload hx hb dX0_nearnessOf_16 (lv_at hl 0 rfl) ?_
  refine lv_lload_n hx hb dX0_nearnessOf_18 rfl (lv_at hl 4 rfl) ?_
  refine lv_lload hx hb dX0_nearnessOf_19 (lv_at hl 5 rfl) ?_
  refine pb_call (W.runV (As := [.int (nI (sl)), .int (nI (1)), .long (x), .long (y)]) (rest := [.long ((0 + (pb_e X Y sl 0 x y * (Z (sl * 3 + 0)).toInt64)))]) ⟨hx, hb, hml, hown, hts⟩ (cC_edge l dC dI h0 h1 h2 h3 k1 k2 k3 X Y Z n sl 1 hs (by decide) x y) (cwV 4 hts gX0_nearnessOf_X0_edge rfl rfl rfl (by decide +kernel) ⟨Nat.le_of_ble_eq_true rfl, Nat.le_of_ble_eq_true rfl⟩) (preC_V hP hK _) rfl rfl hl.1 rfl (lv_room (Nat.le_of_ble_eq_true rfl)) dX0_nearnessOf_21 ⟨Nat.zero_le _, Nat.zero_le _⟩) ?_
  refine lv_aload_n hx hb dX0_nearnessOf_24 rfl (lv_at hl 2 rfl) ?_
  refine va_get (D := (dC, dI)) (ci := 0) (v := .ref h3) (C := RX0) (T := TX0) (N := 4) hx hb hts hin0 hown hK hP 0 rfl rfl 2 (by decide) (hts (.fieldLink RX0 16 "PieceBoxes" "rs" "[I") (by decide +kernel)) (fun _ h9 => h9) rfl dX0_nearnessOf_25 ?_
  refine lv_iload_n hx hb dX0_nearnessOf_28 rfl (lv_at hl 3 rfl) ?_
  refine lv_iconst (v := nI 3) hx hb dX0_nearnessOf_29 (by decide +kernel) ?_
  refine lv_imul hx hb dX0_nearnessOf_30 ?_
  refine pb_eqi (pk_mul _ _) ?_
  refine lv_iload hx hb dX0_nearnessOf_31 (lv_at hl 0 rfl) ?_
  refine lv_iadd hx hb dX0_nearnessOf_33 ?_
  refine pb_eqi (nI_add _ _) ?_
  refine pb_ald (j := sl * 3 + 1) hx hb hK hP 3 2 rfl rfl (by omega) (by decide) dX0_nearnessOf_34 ?_
  refine lv_i2l (v := (Z (sl * 3 + 1)).toInt64) hx hb dX0_nearnessOf_35 rfl ?_
  refine lv_lmul hx hb dX0_nearnessOf_36 ?_
  refine lv_ladd hx hb dX0_nearnessOf_37 ?_
  refine lv_lstore (lv' := [(6, .long (((0 + (pb_e X Y sl 0 x y * (Z (sl * 3 + 0)).toInt64)) + (pb_e X Y sl 1 x y * (Z (sl * 3 + 1)).toInt64)))), (8, .int (nI (1))), (0, .ref h0), (1, .int (nI (sl))), (2, .long (x)), (4, .long (y))]) hx hb dX0_nearnessOf_38 hl (by decide) rfl (fun ls hl => ?_)
  refine lv_iinc (v := (nI (1 + 1))) (lv' := [(8, .int (nI (1 + 1))), (6, .long (((0 + (pb_e X Y sl 0 x y * (Z (sl * 3 + 0)).toInt64)) + (pb_e X Y sl 1 x y * (Z (sl * 3 + 1)).toInt64)))), (0, .ref h0), (1, .int (nI (sl))), (2, .long (x)), (4, .long (y))]) hx hb dX0_nearnessOf_40 hl (k := 1) rfl (by exact (nI_1 (1))) (by decide) rfl (fun ls hl => ?_)
  refine lv_goto (tgt := 6) hx hb dX0_nearnessOf_43 (by decide) ?_
  refine lv_iload hx hb dX0_nearnessOf_6 (lv_at hl 0 rfl) ?_
  refine lv_iconst (v := nI 3) hx hb dX0_nearnessOf_8 (by decide +kernel) ?_
  refine lv_icmp_ge (tgt := 46) hx hb dX0_nearnessOf_9 (by decide) (fun q2 => ?_) (fun q2 => ?_)
  · exact absurd q2 (nI_ge (by decide) (by decide))
  clear q2
  have hl : lv_has ls 10 [(8, .int (nI (2))), (6, .long (((0 + (pb_e X Y sl 0 x y * (Z (sl * 3 + 0)).toInt64)) + (pb_e X Y sl 1 x y * (Z (sl * 3 + 1)).toInt64)))), (0, .ref h0), (1, .int (nI (sl))), (2, .long (x)), (4, .long (y))] := hl
  refine lv_lload hx hb dX0_nearnessOf_12 (lv_at hl 1 rfl) ?_
  refine lv_aload_n hx hb dX0_nearnessOf_14 rfl (lv_at hl 2 rfl) ?_
  refine lv_iload_n hx hb dX0_nearnessOf_15 rfl (lv_at hl 3 rfl) ?_
  refine lv_iload hx hb dX0_nearnessOf_16 (lv_at hl 0 rfl) ?_
  refine lv_lload_n hx hb dX0_nearnessOf_18 rfl (lv_at hl 4 rfl) ?_
  refine lv_lload hx hb dX0_nearnessOf_19 (lv_at hl 5 rfl) ?_
  refine pb_call (W.runV (As := [.int (nI (sl)), .int (nI (2)), .long (x), .long (y)]) (rest := [.long (((0 + (pb_e X Y sl 0 x y * (Z (sl * 3 + 0)).toInt64)) + (pb_e X Y sl 1 x y * (Z (sl * 3 + 1)).toInt64)))]) ⟨hx, hb, hml, hown, hts⟩ (cC_edge l dC dI h0 h1 h2 h3 k1 k2 k3 X Y Z n sl 2 hs (by decide) x y) (cwV 4 hts gX0_nearnessOf_X0_edge rfl rfl rfl (by decide +kernel) ⟨Nat.le_of_ble_eq_true rfl, Nat.le_of_ble_eq_true rfl⟩) (preC_V hP hK _) rfl rfl hl.1 rfl (lv_room (Nat.le_of_ble_eq_true rfl)) dX0_nearnessOf_21 ⟨Nat.zero_le _, Nat.zero_le _⟩) ?_
  refine lv_aload_n hx hb dX0_nearnessOf_24 rfl (lv_at hl 2 rfl) ?_
  refine va_get (D := (dC, dI)) (ci := 0) (v := .ref h3) (C := RX0) (T := TX0) (N := 4) hx hb hts hin0 hown hK hP 0 rfl rfl 2 (by decide) (hts (.fieldLink RX0 16 "PieceBoxes" "rs" "[I") (by decide +kernel)) (fun _ h9 => h9) rfl dX0_nearnessOf_25 ?_
  refine lv_iload_n hx hb dX0_nearnessOf_28 rfl (lv_at hl 3 rfl) ?_
  refine lv_iconst (v := nI 3) hx hb dX0_nearnessOf_29 (by decide +kernel) ?_
  refine lv_imul hx hb dX0_nearnessOf_30 ?_
  refine pb_eqi (pk_mul _ _) ?_
  refine lv_iload hx hb dX0_nearnessOf_31 (lv_at hl 0 rfl) ?_
  refine lv_iadd hx hb dX0_nearnessOf_33 ?_
  refine pb_eqi (nI_add _ _) ?_
  refine pb_ald (j := sl * 3 + 2) hx hb hK hP 3 2 rfl rfl (by omega) (by decide) dX0_nearnessOf_34 ?_
  refine lv_i2l (v := (Z (sl * 3 + 2)).toInt64) hx hb dX0_nearnessOf_35 rfl ?_
  refine lv_lmul hx hb dX0_nearnessOf_36 ?_
  refine lv_ladd hx hb dX0_nearnessOf_37 ?_
  refine lv_lstore (lv' := [(6, .long ((((0 + (pb_e X Y sl 0 x y * (Z (sl * 3 + 0)).toInt64)) + (pb_e X Y sl 1 x y * (Z (sl * 3 + 1)).toInt64)) + (pb_e X Y sl 2 x y * (Z (sl * 3 + 2)).toInt64)))), (8, .int (nI (2))), (0, .ref h0), (1, .int (nI (sl))), (2, .long (x)), (4, .long (y))]) hx hb dX0_nearnessOf_38 hl (by decide) rfl (fun ls hl => ?_)
  refine lv_iinc (v := (nI (2 + 1))) (lv' := [(8, .int (nI (2 + 1))), (6, .long ((((0 + (pb_e X Y sl 0 x y * (Z (sl * 3 + 0)).toInt64)) + (pb_e X Y sl 1 x y * (Z (sl * 3 + 1)).toInt64)) + (pb_e X Y sl 2 x y * (Z (sl * 3 + 2)).toInt64)))), (0, .ref h0), (1, .int (nI (sl))), (2, .long (x)), (4, .long (y))]) hx hb dX0_nearnessOf_40 hl (k := 1) rfl (by exact (nI_1 (2))) (by decide) rfl (fun ls hl => ?_)
  refine lv_goto (tgt := 6) hx hb dX0_nearnessOf_43 (by decide) ?_
  refine lv_iload hx hb dX0_nearnessOf_6 (lv_at hl 0 rfl) ?_
  refine lv_iconst (v := nI 3) hx hb dX0_nearnessOf_8 (by decide +kernel) ?_
  refine lv_icmp_ge (tgt := 46) hx hb dX0_nearnessOf_9 (by decide) (fun q3 => ?_) (fun q3 => ?_)
  · -- all three are added
    have hl : lv_has ls 10 [(8, .int (nI (2 + 1))), (6, .long (pb_sum X Y Z sl x y)), (0, .ref h0), (1, .int (nI (sl))), (2, .long (x)), (4, .long (y))] := hl
    refine lv_aload_n hx hb dX0_nearnessOf_46 rfl (lv_at hl 2 rfl) ?_
    refine lv_iload_n hx hb dX0_nearnessOf_47 rfl (lv_at hl 3 rfl) ?_
    refine pb_call (W.runV (As := [.int (nI (sl))]) (rest := []) ⟨hx, hb, hml, hown, hts⟩ (cC_areaOf l dC dI h0 h1 h2 h3 k1 k2 k3 X Y Z n sl hs) (cwV 1 hts gX0_nearnessOf_X0_areaOf rfl rfl rfl (by decide +kernel) ⟨Nat.le_of_ble_eq_true rfl, Nat.le_of_ble_eq_true rfl⟩) (preC_V hP hK _) rfl rfl hl.1 rfl (lv_room (Nat.le_of_ble_eq_true rfl)) dX0_nearnessOf_48 ⟨Nat.zero_le _, Nat.zero_le _⟩) ?_
    refine lv_lstore (lv' := [(8, .long (pb_ar X Y sl)), (6, .long (pb_sum X Y Z sl x y)), (0, .ref h0), (1, .int (nI (sl))), (2, .long (x)), (4, .long (y))]) hx hb dX0_nearnessOf_51 hl (by decide) rfl (fun ls hl => ?_)
    refine lv_lload hx hb dX0_nearnessOf_53 (lv_at hl 0 rfl) ?_
    refine lv_lconst (v := 0) hx hb dX0_nearnessOf_55 (by decide +kernel) ?_
    refine W.lcmp hx hb dX0_nearnessOf_56 ?_
    refine lv_if_gt (tgt := 62) hx hb dX0_nearnessOf_57 (by decide) (fun q4 => ?_) (fun q4 => ?_)
    · -- it has an area
      have q4 : 0 < pb_ar X Y sl := (lg_cmp_gt _ _).mp q4
      have hne : ¬ pb_ar X Y sl = 0 := fun h => by rw [h] at q4; exact absurd q4 (by decide)
      refine lv_lload hx hb dX0_nearnessOf_62 (lv_at hl 1 rfl) ?_
      refine lv_lload hx hb dX0_nearnessOf_64 (lv_at hl 0 rfl) ?_
      refine pb_call (W.runS (As := [.long (pb_sum X Y Z sl x y), .long (pb_ar X Y sl)]) (rest := []) ⟨hx, hb, hml, hown, hts⟩ (cM_floorDiv l (pb_sum X Y Z sl x y) (pb_ar X Y sl) hne) (va_cwS 2 hts gX0_nearnessOf_J9_floorDiv_f86c9 rfl rfl rfl (by decide +kernel) ⟨Nat.le_of_ble_eq_true rfl, Nat.le_of_ble_eq_true rfl⟩) pb_preS rfl rfl hl.1 rfl (lv_room (Nat.le_of_ble_eq_true rfl)) dX0_nearnessOf_66 ⟨Nat.zero_le _, Nat.zero_le _⟩) ?_
      refine lv_l2i (v := (pb_fd (pb_sum X Y Z sl x y) (pb_ar X Y sl)).toInt32) hx hb dX0_nearnessOf_69 rfl ?_
      exact W.iret (v := ((pb_fd (pb_sum X Y Z sl x y) (pb_ar X Y sl)).toInt32)) hx hb hr (fun t ht hW => ⟨by rw [show pb_nn X Y Z sl x y = _ from if_pos q4], ht⟩) (fun q h => by cases h) dX0_nearnessOf_70
    · -- none
      have q4 : ¬ 0 < pb_ar X Y sl := fun h => q4 ((lg_cmp_gt _ _).mpr h)
      refine lv_iconst (v := (-1)) hx hb dX0_nearnessOf_60 (by decide +kernel) ?_
      exact W.iret (v := (-1)) hx hb hr (fun t ht hW => ⟨by rw [show pb_nn X Y Z sl x y = _ from if_neg q4], ht⟩) (fun q h => by cases h) dX0_nearnessOf_61
  · exact absurd (nI_le (Nat.le_refl 3) (by decide)) q3
