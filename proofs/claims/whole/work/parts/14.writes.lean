set_option maxHeartbeats 4000000 in
set_option maxRecDepth 100000 in
/-- no pieces -/
theorem cC_clear (l : Launch) (dC : Nat → ClassId) (dI : Nat → Nat → Nat) (h0 h1 h2 h3 : Nat) (k1 k2 k3 : ClassId) (X Y Z : Nat → Int32) (n : Nat) (sz : Nat)  : Met l yX0_clear wsX0_clear ({ frames := 0, cells := 0, slots := 0, locals := 0 }) (va_Pc [.ref h0] (fun U => U.heap.size = sz ∧ va_P (dC, dI) vwCl (wC h0 h1 h2 h3 k1 k2 k3 X Y Z n) U.heap ∧ va_K (dC, dI) vwCl (tC k1 k2 k3) U ∧ va_D (fun _ => True) (wC h0 h1 h2 h3 k1 k2 k3 X Y Z n))) (va_Qv (fun (_ : Unit) => True) (fun (_ : Unit) (t : State) => va_P (dC, dI) vwCl (wC h0 h1 h2 h3 k1 k2 k3 X Y Z 0) t.heap ∧ va_D (va_A (wC h0 h1 h2 h3 k1 k2 k3 X Y Z n) sz) (wC h0 h1 h2 h3 k1 k2 k3 X Y Z 0)) (va_A (wC h0 h1 h2 h3 k1 k2 k3 X Y Z n) sz)) 0 0 (va_A (wC h0 h1 h2 h3 k1 k2 k3 X Y Z n) sz) := by
  refine Met.ofW (cc := cX0_clear) (maxL := 1) (ret := none) (by decide) rfl ?_
  intro p e s m args below meth c s₁ B hml hv
  obtain ⟨rfl, hsz, hP, hK, hD0⟩ := hv
  have hx := B.exec
  have hb := B.bytes
  have hr := B.returns
  have hts := atoms_spec (ws := wsX0_clear) B.pre
  have hown : s.vm.findClass RX0 = some m.cls := findClass_of_methodNamed B.named
  have hlocks := B.notSynchronized
  have hin0 : ∀ w ∈ u_ws RX0 TX0 4, w ∈ wsX0_clear := by decide +kernel
  subst hsz
  have hD := hD0.self (sz := s.heap.size)
  generalize hAe : va_A (wC h0 h1 h2 h3 k1 k2 k3 X Y Z n) s.heap.size = A at hD ⊢
  have hA : ∀ q : Nat, s.heap.size ≤ q → A q := fun q h => by rw [← hAe]; exact Or.inr h
  have hS : va_S A s.heap s.heap [] := va_S.rf
  have hl := lv_entry ([.ref h0]) (n := 1) (Nat.le_of_ble_eq_true rfl)
  rw [lg_entry_eq]
  generalize (lg_sl ([.ref h0]) ++ List.replicate (1 - (lg_sl ([.ref h0])).length) Slot.unset).toArray = ls at hl ⊢
  have hl : lv_has ls 1 [(0, .ref h0)] := hl
  refine lv_aload_n hx hb dX0_clear_0 rfl (lv_at hl 0 rfl) ?_
  refine lv_iconst (v := nI 0) hx hb dX0_clear_1 (by decide +kernel) ?_
  refine va_put (D := (dC, dI)) (ci := 0) (v := .int (nI (0))) (ty := .int) (C := RX0) (T := TX0) (N := 4) hx hb hts hin0 tyX0 tyX0_ok nmX0 hown hK hP hD hS 0 rfl rfl 3 (by decide) (hts (.fieldLink RX0 19 "PieceBoxes" "pieces" "I") (by decide +kernel)) (fun _ h9 => h9) rfl (by decide +kernel) rfl rfl (Nat.le_of_ble_eq_true rfl) dX0_clear_2 (fun H locs hP hD hS => ?_)
  have hP : va_P (dC, dI) vwCl [(h0, .inr (0, [.ref h1, .ref h2, .ref h3, .int (nI (0))])), (h1, .inl (k1, 1539, .inl (X))), (h2, .inl (k2, 1539, .inl (Y))), (h3, .inl (k3, 1539, .inl (Z)))] H := hP
  have hD : va_D A [(h0, .inr (0, [.ref h1, .ref h2, .ref h3, .int (nI (0))])), (h1, .inl (k1, 1539, .inl (X))), (h2, .inl (k2, 1539, .inl (Y))), (h3, .inl (k3, 1539, .inl (Z)))] := hD
  exact W.vret hx hb hr (fun t ht hW => ⟨⟨(), rfl, trivial, by rw [ht]; exact hP, hD⟩, hS.F ht⟩) hS.2.2 dX0_clear_5
set_option maxHeartbeats 4000000 in
set_option maxRecDepth 100000 in
/-- a corner of the text -/
theorem cC_corner (l : Launch) (dC : Nat → ClassId) (dI : Nat → Nat → Nat) (h0 h1 h2 h3 : Nat) (k1 k2 k3 : ClassId) (X Y Z : Nat → Int32) (n : Nat) (sz : Nat) (ck cx cy cr : Int32) : Met l yX0_corner wsX0_corner ({ frames := 1, cells := 0, slots := 0, locals := 20 }) (va_Pc [.ref h0, .int (ck), .int (cx), .int (cy), .int (cr)] (fun U => U.heap.size = sz ∧ va_P (dC, dI) vwCl (wC h0 h1 h2 h3 k1 k2 k3 X Y Z n) U.heap ∧ va_K (dC, dI) vwCl (tC k1 k2 k3) U ∧ va_D (fun _ => True) (wC h0 h1 h2 h3 k1 k2 k3 X Y Z n))) (va_Qi (fun (r0 : Int32) (_ : Unit) => r0 = pb_b (pb_ok ck cx cy cr)) (fun (_ : Unit) (t : State) => va_P (dC, dI) vwCl (wC h0 h1 h2 h3 k1 k2 k3 (pb_up (pb_ok ck cx cy cr) X (1536 + ck.toNatClampNeg) cx) (pb_up (pb_ok ck cx cy cr) Y (1536 + ck.toNatClampNeg) cy) (pb_up (pb_ok ck cx cy cr) Z (1536 + ck.toNatClampNeg) cr) n) t.heap ∧ va_D (va_A (wC h0 h1 h2 h3 k1 k2 k3 X Y Z n) sz) (wC h0 h1 h2 h3 k1 k2 k3 (pb_up (pb_ok ck cx cy cr) X (1536 + ck.toNatClampNeg) cx) (pb_up (pb_ok ck cx cy cr) Y (1536 + ck.toNatClampNeg) cy) (pb_up (pb_ok ck cx cy cr) Z (1536 + ck.toNatClampNeg) cr) n)) (va_A (wC h0 h1 h2 h3 k1 k2 k3 X Y Z n) sz)) 0 0 (va_A (wC h0 h1 h2 h3 k1 k2 k3 X Y Z n) sz) := by
  refine Met.ofW (cc := cX0_corner) (maxL := 6) (ret := some .boolean) (by decide) rfl ?_
  intro p e s m args below meth c s₁ B hml hv
  obtain ⟨rfl, hsz, hP, hK, hD0⟩ := hv
  have hx := B.exec
  have hb := B.bytes
  have hr := B.returns
  have hts := atoms_spec (ws := wsX0_corner) B.pre
  have hown : s.vm.findClass RX0 = some m.cls := findClass_of_methodNamed B.named
  have hlocks := B.notSynchronized
  have hin0 : ∀ w ∈ u_ws RX0 TX0 4, w ∈ wsX0_corner := by decide +kernel
  subst hsz
  have hD := hD0.self (sz := s.heap.size)
  generalize hAe : va_A (wC h0 h1 h2 h3 k1 k2 k3 X Y Z n) s.heap.size = A at hD ⊢
  have hA : ∀ q : Nat, s.heap.size ≤ q → A q := fun q h => by rw [← hAe]; exact Or.inr h
  have hS : va_S A s.heap s.heap [] := va_S.rf
  have hl := lv_entry ([.ref h0, .int (ck), .int (cx), .int (cy), .int (cr)]) (n := 6) (Nat.le_of_ble_eq_true rfl)
  rw [lg_entry_eq]
  generalize (lg_sl ([.ref h0, .int (ck), .int (cx), .int (cy), .int (cr)]) ++ List.replicate (6 - (lg_sl ([.ref h0, .int (ck), .int (cx), .int (cy), .int (cr)])).length) Slot.unset).toArray = ls at hl ⊢
  have hl : lv_has ls 6 [(0, .ref h0), (1, .int (ck)), (2, .int (cx)), (3, .int (cy)), (4, .int (cr))] := hl
  refine lv_iload_n hx hb dX0_corner_0 rfl (lv_at hl 1 rfl) ?_
  refine lv_if_lt (tgt := 9) hx hb dX0_corner_1 (by decide) (fun q1 => ?_) (fun q1 => ?_)
  · -- k below 0
    have hok : (pb_ok ck cx cy cr) = false := by simp [pb_ok, Int32.not_le.mpr q1]
    refine lv_iconst (v := 0) hx hb dX0_corner_9 (by decide +kernel) ?_
    exact W.zret (v := (0)) hx hb hr narrow_b0 (fun t ht hW => ⟨⟨(0), (), rfl, by rw [hok]; rfl, by rw [hok]; rw [ht]; exact hP, by rw [hok]; exact hD⟩, hS.F ht⟩) hS.2.2 dX0_corner_10
  · -- k not below 0
    refine lv_iload_n hx hb dX0_corner_4 rfl (lv_at hl 1 rfl) ?_
    refine lv_iconst (v := nI 3) hx hb dX0_corner_5 (by decide +kernel) ?_
    refine lv_icmp_lt (tgt := 11) hx hb dX0_corner_6 (by decide) (fun q2 => ?_) (fun q2 => ?_)
    · -- k is 0 .. 2
      obtain ⟨kn, hkn, rfl⟩ := nI_of q1
      have hk3 : kn < 3 := (nI_ltI hkn (by decide)).mp q2
      refine lv_iload_n hx hb dX0_corner_11 rfl (lv_at hl 2 rfl) ?_
      refine pb_call (W.runS (As := [.int (cx)]) (rest := []) ⟨hx, hb, hml, hown, hts⟩ (cC_isOnGrid l cx) (va_cwS 1 hts gX0_corner_X0_isOnGrid rfl rfl rfl (by decide +kernel) ⟨Nat.le_of_ble_eq_true rfl, Nat.le_of_ble_eq_true rfl⟩) pb_preS rfl rfl hl.1 rfl (lv_room (Nat.le_of_ble_eq_true rfl)) dX0_corner_12 ⟨Nat.zero_le _, Nat.zero_le _⟩) ?_
      refine lv_if_eq (tgt := 38) hx hb dX0_corner_15 (by decide) (fun q3 => ?_) (fun q3 => ?_)
      · -- cx is off the grid
        have q3 := pb_b_eq q3
        have hok : (pb_ok (nI kn) cx cy cr) = false := by simp [pb_ok, q3]
        refine lv_iconst (v := 0) hx hb dX0_corner_38 (by decide +kernel) ?_
        exact W.zret (v := (0)) hx hb hr narrow_b0 (fun t ht hW => ⟨⟨(0), (), rfl, by rw [hok]; rfl, by rw [hok]; rw [ht]; exact hP, by rw [hok]; exact hD⟩, hS.F ht⟩) hS.2.2 dX0_corner_39
      · -- cx is on it
        have q3 := pb_b_ne q3
        refine lv_iload_n hx hb dX0_corner_18 rfl (lv_at hl 3 rfl) ?_
        refine pb_call (W.runS (As := [.int (cy)]) (rest := []) ⟨hx, hb, hml, hown, hts⟩ (cC_isOnGrid l cy) (va_cwS 1 hts gX0_corner_X0_isOnGrid rfl rfl rfl (by decide +kernel) ⟨Nat.le_of_ble_eq_true rfl, Nat.le_of_ble_eq_true rfl⟩) pb_preS rfl rfl hl.1 rfl (lv_room (Nat.le_of_ble_eq_true rfl)) dX0_corner_19 ⟨Nat.zero_le _, Nat.zero_le _⟩) ?_
        refine lv_if_eq (tgt := 38) hx hb dX0_corner_22 (by decide) (fun q4 => ?_) (fun q4 => ?_)
        · -- cy is off the grid
          have q4 := pb_b_eq q4
          have hok : (pb_ok (nI kn) cx cy cr) = false := by simp [pb_ok, q4]
          refine lv_iconst (v := 0) hx hb dX0_corner_38 (by decide +kernel) ?_
          exact W.zret (v := (0)) hx hb hr narrow_b0 (fun t ht hW => ⟨⟨(0), (), rfl, by rw [hok]; rfl, by rw [hok]; rw [ht]; exact hP, by rw [hok]; exact hD⟩, hS.F ht⟩) hS.2.2 dX0_corner_39
        · -- cy is on it
          have q4 := pb_b_ne q4
          refine lv_iload hx hb dX0_corner_25 (lv_at hl 4 rfl) ?_
          refine lv_iconst (v := 1) hx hb dX0_corner_27 (by decide +kernel) ?_
          refine lv_icmp_lt (tgt := 38) hx hb dX0_corner_28 (by decide) (fun q5 => ?_) (fun q5 => ?_)
          · -- r below 1
            have hok : (pb_ok (nI kn) cx cy cr) = false := by simp [pb_ok, Int32.not_le.mpr q5]
            refine lv_iconst (v := 0) hx hb dX0_corner_38 (by decide +kernel) ?_
            exact W.zret (v := (0)) hx hb hr narrow_b0 (fun t ht hW => ⟨⟨(0), (), rfl, by rw [hok]; rfl, by rw [hok]; rw [ht]; exact hP, by rw [hok]; exact hD⟩, hS.F ht⟩) hS.2.2 dX0_corner_39
          · -- r from 1 on
            refine lv_iload hx hb dX0_corner_31 (lv_at hl 4 rfl) ?_
            refine lv_ldc (v := 1048576) hx hb hown (hts (.constant RX0 27 1048576) (by decide +kernel)) dX0_corner_33 ?_
            refine lv_icmp_le (tgt := 40) hx hb dX0_corner_35 (by decide) (fun q6 => ?_) (fun q6 => ?_)
            · -- r is right
              have hok : (pb_ok (nI kn) cx cy cr) = true := by simp [pb_ok, q3, q4, Int32.not_lt.mp q5, q6, nI_pos' (show kn < 2 ^ 31 by omega), (nI_ltI (show kn < 2 ^ 31 by omega) (show 3 < 2 ^ 31 by decide)).mpr hk3, show (3 : Int32) = nI 3 from rfl]
              refine lv_sipush (v := nI 1536) hx hb dX0_corner_40 (by decide +kernel) ?_
              refine lv_iload_n hx hb dX0_corner_43 rfl (lv_at hl 1 rfl) ?_
              refine lv_iadd hx hb dX0_corner_44 ?_
              refine pb_eqi (nI_add _ _) ?_
              refine lv_istore (lv' := [(5, .int (nI (1536 + kn))), (0, .ref h0), (1, .int (nI (kn))), (2, .int (cx)), (3, .int (cy)), (4, .int (cr))]) hx hb dX0_corner_45 hl (by decide) rfl (fun ls hl => ?_)
              refine lv_aload_n hx hb dX0_corner_47 rfl (lv_at hl 1 rfl) ?_
              refine va_get (D := (dC, dI)) (ci := 0) (v := .ref h1) (C := RX0) (T := TX0) (N := 4) hx hb hts hin0 hown hK hP 0 rfl rfl 0 (by decide) (hts (.fieldLink RX0 9 "PieceBoxes" "xs" "[I") (by decide +kernel)) (fun _ h9 => h9) rfl dX0_corner_48 ?_
              refine lv_iload hx hb dX0_corner_51 (lv_at hl 0 rfl) ?_
              refine lv_iload_n hx hb dX0_corner_53 rfl (lv_at hl 3 rfl) ?_
              refine pb_ast (j := 1536 + kn) hx hb hK hP hD hS 1 0 rfl rfl (by omega) (by decide) dX0_corner_54 (fun H locs hP hD hS => ?_)
              have hP : va_P (dC, dI) vwCl [(h0, .inr (0, [.ref h1, .ref h2, .ref h3, .int (nI (n))])), (h1, .inl (k1, 1539, .inl (upd X (1536 + kn) (cx)))), (h2, .inl (k2, 1539, .inl (Y))), (h3, .inl (k3, 1539, .inl (Z)))] H := hP
              have hD : va_D A [(h0, .inr (0, [.ref h1, .ref h2, .ref h3, .int (nI (n))])), (h1, .inl (k1, 1539, .inl (upd X (1536 + kn) (cx)))), (h2, .inl (k2, 1539, .inl (Y))), (h3, .inl (k3, 1539, .inl (Z)))] := hD
              refine lv_aload_n hx hb dX0_corner_55 rfl (lv_at hl 1 rfl) ?_
              refine va_get (D := (dC, dI)) (ci := 0) (v := .ref h2) (C := RX0) (T := TX0) (N := 4) hx hb hts hin0 hown hK hP 0 rfl rfl 1 (by decide) (hts (.fieldLink RX0 13 "PieceBoxes" "ys" "[I") (by decide +kernel)) (fun _ h9 => h9) rfl dX0_corner_56 ?_
              refine lv_iload hx hb dX0_corner_59 (lv_at hl 0 rfl) ?_
              refine lv_iload_n hx hb dX0_corner_61 rfl (lv_at hl 4 rfl) ?_
              refine pb_ast (j := 1536 + kn) hx hb hK hP hD hS 2 1 rfl rfl (by omega) (by decide) dX0_corner_62 (fun H locs hP hD hS => ?_)
              have hP : va_P (dC, dI) vwCl [(h0, .inr (0, [.ref h1, .ref h2, .ref h3, .int (nI (n))])), (h1, .inl (k1, 1539, .inl (upd X (1536 + kn) (cx)))), (h2, .inl (k2, 1539, .inl (upd Y (1536 + kn) (cy)))), (h3, .inl (k3, 1539, .inl (Z)))] H := hP
              have hD : va_D A [(h0, .inr (0, [.ref h1, .ref h2, .ref h3, .int (nI (n))])), (h1, .inl (k1, 1539, .inl (upd X (1536 + kn) (cx)))), (h2, .inl (k2, 1539, .inl (upd Y (1536 + kn) (cy)))), (h3, .inl (k3, 1539, .inl (Z)))] := hD
              refine lv_aload_n hx hb dX0_corner_63 rfl (lv_at hl 1 rfl) ?_
              refine va_get (D := (dC, dI)) (ci := 0) (v := .ref h3) (C := RX0) (T := TX0) (N := 4) hx hb hts hin0 hown hK hP 0 rfl rfl 2 (by decide) (hts (.fieldLink RX0 16 "PieceBoxes" "rs" "[I") (by decide +kernel)) (fun _ h9 => h9) rfl dX0_corner_64 ?_
              refine lv_iload hx hb dX0_corner_67 (lv_at hl 0 rfl) ?_
              refine lv_iload hx hb dX0_corner_69 (lv_at hl 5 rfl) ?_
              refine pb_ast (j := 1536 + kn) hx hb hK hP hD hS 3 2 rfl rfl (by omega) (by decide) dX0_corner_71 (fun H locs hP hD hS => ?_)
              have hP : va_P (dC, dI) vwCl [(h0, .inr (0, [.ref h1, .ref h2, .ref h3, .int (nI (n))])), (h1, .inl (k1, 1539, .inl (upd X (1536 + kn) (cx)))), (h2, .inl (k2, 1539, .inl (upd Y (1536 + kn) (cy)))), (h3, .inl (k3, 1539, .inl (upd Z (1536 + kn) (cr))))] H := hP
              have hD : va_D A [(h0, .inr (0, [.ref h1, .ref h2, .ref h3, .int (nI (n))])), (h1, .inl (k1, 1539, .inl (upd X (1536 + kn) (cx)))), (h2, .inl (k2, 1539, .inl (upd Y (1536 + kn) (cy)))), (h3, .inl (k3, 1539, .inl (upd Z (1536 + kn) (cr))))] := hD
              refine lv_iconst (v := 1) hx hb dX0_corner_72 (by decide +kernel) ?_
              exact W.zret (v := (1)) hx hb hr narrow_b1 (fun t ht hW => ⟨⟨(1), (), rfl, by rw [hok]; rfl, by rw [hok, nI_clamp (show kn < 2 ^ 31 by omega)]; rw [ht]; exact hP, by rw [hok, nI_clamp (show kn < 2 ^ 31 by omega)]; exact hD⟩, hS.F ht⟩) hS.2.2 dX0_corner_73
            · -- r above
              have hok : (pb_ok (nI kn) cx cy cr) = false := by simp [pb_ok, q6]
              refine lv_iconst (v := 0) hx hb dX0_corner_38 (by decide +kernel) ?_
              exact W.zret (v := (0)) hx hb hr narrow_b0 (fun t ht hW => ⟨⟨(0), (), rfl, by rw [hok]; rfl, by rw [hok]; rw [ht]; exact hP, by rw [hok]; exact hD⟩, hS.F ht⟩) hS.2.2 dX0_corner_39
    · -- k from 3 on
      have q2 : ¬ ck < 3 := q2
      have hok : (pb_ok ck cx cy cr) = false := by simp [pb_ok, q2]
      refine lv_iconst (v := 0) hx hb dX0_corner_9 (by decide +kernel) ?_
      exact W.zret (v := (0)) hx hb hr narrow_b0 (fun t ht hW => ⟨⟨(0), (), rfl, by rw [hok]; rfl, by rw [hok]; rw [ht]; exact hP, by rw [hok]; exact hD⟩, hS.F ht⟩) hS.2.2 dX0_corner_10
set_option maxHeartbeats 4000000 in
set_option maxRecDepth 100000 in
/-- a piece more -/
theorem cC_add (l : Launch) (dC : Nat → ClassId) (dI : Nat → Nat → Nat) (h0 h1 h2 h3 : Nat) (k1 k2 k3 : ClassId) (X Y Z : Nat → Int32) (n : Nat) (sz : Nat) (hn : n ≤ 512) : Met l yX0_add wsX0_add ({ frames := 3, cells := 0, slots := 0, locals := 75 }) (va_Pc [.ref h0] (fun U => U.heap.size = sz ∧ va_P (dC, dI) vwCl (wC h0 h1 h2 h3 k1 k2 k3 X Y Z n) U.heap ∧ va_K (dC, dI) vwCl (tC k1 k2 k3) U ∧ va_D (fun _ => True) (wC h0 h1 h2 h3 k1 k2 k3 X Y Z n))) (va_Qi (fun (r0 : Int32) (_ : Unit) => r0 = pb_if (pb_add X Y n) (nI n) (-1)) (fun (_ : Unit) (t : State) => va_P (dC, dI) vwCl (wC h0 h1 h2 h3 k1 k2 k3 (pb_if (pb_add X Y n) (pb_cp X n) X) (pb_if (pb_add X Y n) (pb_cp Y n) Y) (pb_if (pb_add X Y n) (pb_cp Z n) Z) (pb_if (pb_add X Y n) (n + 1) n)) t.heap ∧ va_D (va_A (wC h0 h1 h2 h3 k1 k2 k3 X Y Z n) sz) (wC h0 h1 h2 h3 k1 k2 k3 (pb_if (pb_add X Y n) (pb_cp X n) X) (pb_if (pb_add X Y n) (pb_cp Y n) Y) (pb_if (pb_add X Y n) (pb_cp Z n) Z) (pb_if (pb_add X Y n) (n + 1) n))) (va_A (wC h0 h1 h2 h3 k1 k2 k3 X Y Z n) sz)) 0 0 (va_A (wC h0 h1 h2 h3 k1 k2 k3 X Y Z n) sz) := by
  refine Met.ofW (cc := cX0_add) (maxL := 5) (ret := some .int) (by decide) rfl ?_
  intro p e s m args below meth c s₁ B hml hv
  obtain ⟨rfl, hsz, hP, hK, hD0⟩ := hv
  have hx := B.exec
  have hb := B.bytes
  have hr := B.returns
  have hts := atoms_spec (ws := wsX0_add) B.pre
  have hown : s.vm.findClass RX0 = some m.cls := findClass_of_methodNamed B.named
  have hlocks := B.notSynchronized
  have hin0 : ∀ w ∈ u_ws RX0 TX0 4, w ∈ wsX0_add := by decide +kernel
  subst hsz
  have hD := hD0.self (sz := s.heap.size)
  generalize hAe : va_A (wC h0 h1 h2 h3 k1 k2 k3 X Y Z n) s.heap.size = A at hD ⊢
  have hA : ∀ q : Nat, s.heap.size ≤ q → A q := fun q h => by rw [← hAe]; exact Or.inr h
  have hS : va_S A s.heap s.heap [] := va_S.rf
  have hl := lv_entry ([.ref h0]) (n := 5) (Nat.le_of_ble_eq_true rfl)
  rw [lg_entry_eq]
  generalize (lg_sl ([.ref h0]) ++ List.replicate (5 - (lg_sl ([.ref h0])).length) Slot.unset).toArray = ls at hl ⊢
  have hl : lv_has ls 5 [(0, .ref h0)] := hl
  refine lv_aload_n hx hb dX0_add_0 rfl (lv_at hl 0 rfl) ?_
  refine va_get (D := (dC, dI)) (ci := 0) (v := .int (nI (n))) (C := RX0) (T := TX0) (N := 4) hx hb hts hin0 hown hK hP 0 rfl rfl 3 (by decide) (hts (.fieldLink RX0 19 "PieceBoxes" "pieces" "I") (by decide +kernel)) (fun _ h9 => h9) rfl dX0_add_1 ?_
  refine lv_sipush (v := nI 512) hx hb dX0_add_4 (by decide +kernel) ?_
  refine lv_icmp_ge (tgt := 22) hx hb dX0_add_7 (by decide) (fun q1 => ?_) (fun q1 => ?_)
  · -- full
    have hok : (pb_add X Y n) = false := by simp [pb_add, Nat.not_lt.mpr ((nI_leI (by decide) (by omega)).mp q1)]
    refine lv_iconst (v := (-1)) hx hb dX0_add_22 (by decide +kernel) ?_
    exact W.iret (v := (-1)) hx hb hr (fun t ht hW => ⟨⟨(-1), (), rfl, by rw [hok]; rfl, by rw [hok]; rw [ht]; exact hP, by rw [hok]; exact hD⟩, hS.F ht⟩) hS.2.2 dX0_add_23
  · -- room is left
    have q1 : n < 512 := Nat.not_le.mp (fun h => q1 (nI_le h (by omega)))
    refine lv_aload_n hx hb dX0_add_10 rfl (lv_at hl 0 rfl) ?_
    refine lv_sipush (v := nI 512) hx hb dX0_add_11 (by decide +kernel) ?_
    refine pb_call (W.runV (As := [.int (nI (512))]) (rest := []) ⟨hx, hb, hml, hown, hts⟩ (cC_areaOf l dC dI h0 h1 h2 h3 k1 k2 k3 X Y Z n 512 (by decide)) (cwV 1 hts gX0_add_X0_areaOf rfl rfl rfl (by decide +kernel) ⟨Nat.le_of_ble_eq_true rfl, Nat.le_of_ble_eq_true rfl⟩) (preC_V hP hK _) rfl rfl hl.1 rfl (lv_room (Nat.le_of_ble_eq_true rfl)) dX0_add_14 ⟨Nat.zero_le _, Nat.zero_le _⟩) ?_
    refine lv_lconst (v := 0) hx hb dX0_add_17 (by decide +kernel) ?_
    refine W.lcmp hx hb dX0_add_18 ?_
    refine lv_if_gt (tgt := 24) hx hb dX0_add_19 (by decide) (fun q2 => ?_) (fun q2 => ?_)
    · -- an area
      have q2 := (lg_cmp_gt _ _).mp q2
      have hok : (pb_add X Y n) = true := by simp [pb_add, q1, q2]
      refine lv_aload_n hx hb dX0_add_24 rfl (lv_at hl 0 rfl) ?_
      refine va_get (D := (dC, dI)) (ci := 0) (v := .int (nI (n))) (C := RX0) (T := TX0) (N := 4) hx hb hts hin0 hown hK hP 0 rfl rfl 3 (by decide) (hts (.fieldLink RX0 19 "PieceBoxes" "pieces" "I") (by decide +kernel)) (fun _ h9 => h9) rfl dX0_add_25 ?_
      refine lv_istore_n (lv' := [(1, .int (nI (n))), (0, .ref h0)]) hx hb dX0_add_28 rfl hl (by decide) rfl (fun ls hl => ?_)
      refine lv_iconst (v := nI 0) hx hb dX0_add_29 (by decide +kernel) ?_
      refine lv_istore_n (lv' := [(2, .int (nI (0))), (1, .int (nI (n))), (0, .ref h0)]) hx hb dX0_add_30 rfl hl (by decide) rfl (fun ls hl => ?_)
      refine lv_iload_n hx hb dX0_add_31 rfl (lv_at hl 0 rfl) ?_
      refine lv_iconst (v := nI 3) hx hb dX0_add_32 (by decide +kernel) ?_
      refine lv_icmp_ge (tgt := 94) hx hb dX0_add_33 (by decide) (fun q3 => ?_) (fun q3 => ?_)
      · exact absurd q3 (nI_ge (by decide) (by decide))
      clear q3
      refine lv_sipush (v := nI 1536) hx hb dX0_add_36 (by decide +kernel) ?_
      refine lv_iload_n hx hb dX0_add_39 rfl (lv_at hl 0 rfl) ?_
      refine lv_iadd hx hb dX0_add_40 ?_
      refine pb_eqi (nI_add _ _) ?_
      refine lv_istore_n (lv' := [(3, .int (nI (1536 + 0))), (2, .int (nI (0))), (1, .int (nI (n))), (0, .ref h0)]) hx hb dX0_add_41 rfl hl (by decide) rfl (fun ls hl => ?_)
      refine lv_iload_n hx hb dX0_add_42 rfl (lv_at hl 2 rfl) ?_
      refine lv_iconst (v := nI 3) hx hb dX0_add_43 (by decide +kernel) ?_
      refine lv_imul hx hb dX0_add_44 ?_
      refine pb_eqi (pk_mul _ _) ?_
      refine lv_iload_n hx hb dX0_add_45 rfl (lv_at hl 1 rfl) ?_
      refine lv_iadd hx hb dX0_add_46 ?_
      refine pb_eqi (nI_add _ _) ?_
      refine lv_istore (lv' := [(4, .int (nI (n * 3 + 0))), (3, .int (nI (1536 + 0))), (2, .int (nI (0))), (1, .int (nI (n))), (0, .ref h0)]) hx hb dX0_add_47 hl (by decide) rfl (fun ls hl => ?_)
      refine lv_aload_n hx hb dX0_add_49 rfl (lv_at hl 4 rfl) ?_
      refine va_get (D := (dC, dI)) (ci := 0) (v := .ref h1) (C := RX0) (T := TX0) (N := 4) hx hb hts hin0 hown hK hP 0 rfl rfl 0 (by decide) (hts (.fieldLink RX0 9 "PieceBoxes" "xs" "[I") (by decide +kernel)) (fun _ h9 => h9) rfl dX0_add_50 ?_
      refine lv_iload hx hb dX0_add_53 (lv_at hl 0 rfl) ?_
      refine lv_aload_n hx hb dX0_add_55 rfl (lv_at hl 4 rfl) ?_
      refine va_get (D := (dC, dI)) (ci := 0) (v := .ref h1) (C := RX0) (T := TX0) (N := 4) hx hb hts hin0 hown hK hP 0 rfl rfl 0 (by decide) (hts (.fieldLink RX0 9 "PieceBoxes" "xs" "[I") (by decide +kernel)) (fun _ h9 => h9) rfl dX0_add_56 ?_
      refine lv_iload_n hx hb dX0_add_59 rfl (lv_at hl 1 rfl) ?_
      refine pb_ald (j := 1536 + 0) hx hb hK hP 1 0 rfl rfl (by omega) (by decide) dX0_add_60 ?_
      refine pb_ast (j := n * 3 + 0) hx hb hK hP hD hS 1 0 rfl rfl (by omega) (by decide) dX0_add_61 (fun H locs hP hD hS => ?_)
      have hP : va_P (dC, dI) vwCl [(h0, .inr (0, [.ref h1, .ref h2, .ref h3, .int (nI (n))])), (h1, .inl (k1, 1539, .inl (pb_cp1 X n 0))), (h2, .inl (k2, 1539, .inl (Y))), (h3, .inl (k3, 1539, .inl (Z)))] H := hP
      have hD : va_D A [(h0, .inr (0, [.ref h1, .ref h2, .ref h3, .int (nI (n))])), (h1, .inl (k1, 1539, .inl (pb_cp1 X n 0))), (h2, .inl (k2, 1539, .inl (Y))), (h3, .inl (k3, 1539, .inl (Z)))] := hD
      refine lv_aload_n hx hb dX0_add_62 rfl (lv_at hl 4 rfl) ?_
      refine va_get (D := (dC, dI)) (ci := 0) (v := .ref h2) (C := RX0) (T := TX0) (N := 4) hx hb hts hin0 hown hK hP 0 rfl rfl 1 (by decide) (hts (.fieldLink RX0 13 "PieceBoxes" "ys" "[I") (by decide +kernel)) (fun _ h9 => h9) rfl dX0_add_63 ?_
      refine lv_iload hx hb dX0_add_66 (lv_at hl 0 rfl) ?_
      refine lv_aload_n hx hb dX0_add_68 rfl (lv_at hl 4 rfl) ?_
      refine va_get (D := (dC, dI)) (ci := 0) (v := .ref h2) (C := RX0) (T := TX0) (N := 4) hx hb hts hin0 hown hK hP 0 rfl rfl 1 (by decide) (hts (.fieldLink RX0 13 "PieceBoxes" "ys" "[I") (by decide +kernel)) (fun _ h9 => h9) rfl dX0_add_69 ?_
      refine lv_iload_n hx hb dX0_add_72 rfl (lv_at hl 1 rfl) ?_
      refine pb_ald (j := 1536 + 0) hx hb hK hP 2 1 rfl rfl (by omega) (by decide) dX0_add_73 ?_
      refine pb_ast (j := n * 3 + 0) hx hb hK hP hD hS 2 1 rfl rfl (by omega) (by decide) dX0_add_74 (fun H locs hP hD hS => ?_)
      have hP : va_P (dC, dI) vwCl [(h0, .inr (0, [.ref h1, .ref h2, .ref h3, .int (nI (n))])), (h1, .inl (k1, 1539, .inl (pb_cp1 X n 0))), (h2, .inl (k2, 1539, .inl (pb_cp1 Y n 0))), (h3, .inl (k3, 1539, .inl (Z)))] H := hP
      have hD : va_D A [(h0, .inr (0, [.ref h1, .ref h2, .ref h3, .int (nI (n))])), (h1, .inl (k1, 1539, .inl (pb_cp1 X n 0))), (h2, .inl (k2, 1539, .inl (pb_cp1 Y n 0))), (h3, .inl (k3, 1539, .inl (Z)))] := hD
      refine lv_aload_n hx hb dX0_add_75 rfl (lv_at hl 4 rfl) ?_
      refine va_get (D := (dC, dI)) (ci := 0) (v := .ref h3) (C := RX0) (T := TX0) (N := 4) hx hb hts hin0 hown hK hP 0 rfl rfl 2 (by decide) (hts (.fieldLink RX0 16 "PieceBoxes" "rs" "[I") (by decide +kernel)) (fun _ h9 => h9) rfl dX0_add_76 ?_
      refine lv_iload hx hb dX0_add_79 (lv_at hl 0 rfl) ?_
      refine lv_aload_n hx hb dX0_add_81 rfl (lv_at hl 4 rfl) ?_
      refine va_get (D := (dC, dI)) (ci := 0) (v := .ref h3) (C := RX0) (T := TX0) (N := 4) hx hb hts hin0 hown hK hP 0 rfl rfl 2 (by decide) (hts (.fieldLink RX0 16 "PieceBoxes" "rs" "[I") (by decide +kernel)) (fun _ h9 => h9) rfl dX0_add_82 ?_
      refine lv_iload_n hx hb dX0_add_85 rfl (lv_at hl 1 rfl) ?_
      refine pb_ald (j := 1536 + 0) hx hb hK hP 3 2 rfl rfl (by omega) (by decide) dX0_add_86 ?_
      refine pb_ast (j := n * 3 + 0) hx hb hK hP hD hS 3 2 rfl rfl (by omega) (by decide) dX0_add_87 (fun H locs hP hD hS => ?_)
      have hP : va_P (dC, dI) vwCl [(h0, .inr (0, [.ref h1, .ref h2, .ref h3, .int (nI (n))])), (h1, .inl (k1, 1539, .inl (pb_cp1 X n 0))), (h2, .inl (k2, 1539, .inl (pb_cp1 Y n 0))), (h3, .inl (k3, 1539, .inl (pb_cp1 Z n 0)))] H := hP
      have hD : va_D A [(h0, .inr (0, [.ref h1, .ref h2, .ref h3, .int (nI (n))])), (h1, .inl (k1, 1539, .inl (pb_cp1 X n 0))), (h2, .inl (k2, 1539, .inl (pb_cp1 Y n 0))), (h3, .inl (k3, 1539, .inl (pb_cp1 Z n 0)))] := hD
      refine lv_iinc (v := (nI (0 + 1))) (lv' := [(2, .int (nI (0 + 1))), (4, .int (nI (n * 3 + 0))), (3, .int (nI (1536 + 0))), (1, .int (nI (n))), (0, .ref h0)]) hx hb dX0_add_88 hl (k := 2) rfl (by exact (nI_1 (0))) (by decide) rfl (fun ls hl => ?_)
      refine lv_goto (tgt := 31) hx hb dX0_add_91 (by decide) ?_
      have hl : lv_has ls 5 [(2, .int (nI (1))), (4, .int (nI (n * 3 + 0))), (3, .int (nI (1536 + 0))), (1, .int (nI (n))), (0, .ref h0)] := hl
      refine lv_iload_n hx hb dX0_add_31 rfl (lv_at hl 0 rfl) ?_
      refine lv_iconst (v := nI 3) hx hb dX0_add_32 (by decide +kernel) ?_
      refine lv_icmp_ge (tgt := 94) hx hb dX0_add_33 (by decide) (fun q3 => ?_) (fun q3 => ?_)
      · exact absurd q3 (nI_ge (by decide) (by decide))
      clear q3
      refine lv_sipush (v := nI 1536) hx hb dX0_add_36 (by decide +kernel) ?_
      refine lv_iload_n hx hb dX0_add_39 rfl (lv_at hl 0 rfl) ?_
      refine lv_iadd hx hb dX0_add_40 ?_
      refine pb_eqi (nI_add _ _) ?_
      refine lv_istore_n (lv' := [(3, .int (nI (1536 + 1))), (2, .int (nI (1))), (4, .int (nI (n * 3 + 0))), (1, .int (nI (n))), (0, .ref h0)]) hx hb dX0_add_41 rfl hl (by decide) rfl (fun ls hl => ?_)
      refine lv_iload_n hx hb dX0_add_42 rfl (lv_at hl 3 rfl) ?_
      refine lv_iconst (v := nI 3) hx hb dX0_add_43 (by decide +kernel) ?_
      refine lv_imul hx hb dX0_add_44 ?_
      refine pb_eqi (pk_mul _ _) ?_
      refine lv_iload_n hx hb dX0_add_45 rfl (lv_at hl 1 rfl) ?_
      refine lv_iadd hx hb dX0_add_46 ?_
      refine pb_eqi (nI_add _ _) ?_
      refine lv_istore (lv' := [(4, .int (nI (n * 3 + 1))), (3, .int (nI (1536 + 1))), (2, .int (nI (1))), (1, .int (nI (n))), (0, .ref h0)]) hx hb dX0_add_47 hl (by decide) rfl (fun ls hl => ?_)
      refine lv_aload_n hx hb dX0_add_49 rfl (lv_at hl 4 rfl) ?_
      refine va_get (D := (dC, dI)) (ci := 0) (v := .ref h1) (C := RX0) (T := TX0) (N := 4) hx hb hts hin0 hown hK hP 0 rfl rfl 0 (by decide) (hts (.fieldLink RX0 9 "PieceBoxes" "xs" "[I") (by decide +kernel)) (fun _ h9 => h9) rfl dX0_add_50 ?_
      refine lv_iload hx hb dX0_add_53 (lv_at hl 0 rfl) ?_
      refine lv_aload_n hx hb dX0_add_55 rfl (lv_at hl 4 rfl) ?_
      refine va_get (D := (dC, dI)) (ci := 0) (v := .ref h1) (C := RX0) (T := TX0) (N := 4) hx hb hts hin0 hown hK hP 0 rfl rfl 0 (by decide) (hts (.fieldLink RX0 9 "PieceBoxes" "xs" "[I") (by decide +kernel)) (fun _ h9 => h9) rfl dX0_add_56 ?_
      refine lv_iload_n hx hb dX0_add_59 rfl (lv_at hl 1 rfl) ?_
      refine pb_ald (j := 1536 + 1) hx hb hK hP 1 0 rfl rfl (by omega) (by decide) dX0_add_60 ?_
      refine pb_ast (j := n * 3 + 1) hx hb hK hP hD hS 1 0 rfl rfl (by omega) (by decide) dX0_add_61 (fun H locs hP hD hS => ?_)
      have hP : va_P (dC, dI) vwCl [(h0, .inr (0, [.ref h1, .ref h2, .ref h3, .int (nI (n))])), (h1, .inl (k1, 1539, .inl (pb_cp1 (pb_cp1 X n 0) n 1))), (h2, .inl (k2, 1539, .inl (pb_cp1 Y n 0))), (h3, .inl (k3, 1539, .inl (pb_cp1 Z n 0)))] H := hP
      have hD : va_D A [(h0, .inr (0, [.ref h1, .ref h2, .ref h3, .int (nI (n))])), (h1, .inl (k1, 1539, .inl (pb_cp1 (pb_cp1 X n 0) n 1))), (h2, .inl (k2, 1539, .inl (pb_cp1 Y n 0))), (h3, .inl (k3, 1539, .inl (pb_cp1 Z n 0)))] := hD
      refine lv_aload_n hx hb dX0_add_62 rfl (lv_at hl 4 rfl) ?_
      refine va_get (D := (dC, dI)) (ci := 0) (v := .ref h2) (C := RX0) (T := TX0) (N := 4) hx hb hts hin0 hown hK hP 0 rfl rfl 1 (by decide) (hts (.fieldLink RX0 13 "PieceBoxes" "ys" "[I") (by decide +kernel)) (fun _ h9 => h9) rfl dX0_add_63 ?_
      refine lv_iload hx hb dX0_add_66 (lv_at hl 0 rfl) ?_
      refine lv_aload_n hx hb dX0_add_68 rfl (lv_at hl 4 rfl) ?_
      refine va_get (D := (dC, dI)) (ci := 0) (v := .ref h2) (C := RX0) (T := TX0) (N := 4) hx hb hts hin0 hown hK hP 0 rfl rfl 1 (by decide) (hts (.fieldLink RX0 13 "PieceBoxes" "ys" "[I") (by decide +kernel)) (fun _ h9 => h9) rfl dX0_add_69 ?_
      refine lv_iload_n hx hb dX0_add_72 rfl (lv_at hl 1 rfl) ?_
      refine pb_ald (j := 1536 + 1) hx hb hK hP 2 1 rfl rfl (by omega) (by decide) dX0_add_73 ?_
      refine pb_ast (j := n * 3 + 1) hx hb hK hP hD hS 2 1 rfl rfl (by omega) (by decide) dX0_add_74 (fun H locs hP hD hS => ?_)
      have hP : va_P (dC, dI) vwCl [(h0, .inr (0, [.ref h1, .ref h2, .ref h3, .int (nI (n))])), (h1, .inl (k1, 1539, .inl (pb_cp1 (pb_cp1 X n 0) n 1))), (h2, .inl (k2, 1539, .inl (pb_cp1 (pb_cp1 Y n 0) n 1))), (h3, .inl (k3, 1539, .inl (pb_cp1 Z n 0)))] H := hP
      have hD : va_D A [(h0, .inr (0, [.ref h1, .ref h2, .ref h3, .int (nI (n))])), (h1, .inl (k1, 1539, .inl (pb_cp1 (pb_cp1 X n 0) n 1))), (h2, .inl (k2, 1539, .inl (pb_cp1 (pb_cp1 Y n 0) n 1))), (h3, .inl (k3, 1539, .inl (pb_cp1 Z n 0)))] := hD
      refine lv_aload_n hx hb dX0_add_75 rfl (lv_at hl 4 rfl) ?_
      refine va_get (D := (dC, dI)) (ci := 0) (v := .ref h3) (C := RX0) (T := TX0) (N := 4) hx hb hts hin0 hown hK hP 0 rfl rfl 2 (by decide) (hts (.fieldLink RX0 16 "PieceBoxes" "rs" "[I") (by decide +kernel)) (fun _ h9 => h9) rfl dX0_add_76 ?_
      refine lv_iload hx hb dX0_add_79 (lv_at hl 0 rfl) ?_
      refine lv_aload_n hx hb dX0_add_81 rfl (lv_at hl 4 rfl) ?_
      refine va_get (D := (dC, dI)) (ci := 0) (v := .ref h3) (C := RX0) (T := TX0) (N := 4) hx hb hts hin0 hown hK hP 0 rfl rfl 2 (by decide) (hts (.fieldLink RX0 16 "PieceBoxes" "rs" "[I") (by decide +kernel)) (fun _ h9 => h9) rfl dX0_add_82 ?_
      refine lv_iload_n hx hb dX0_add_85 rfl (lv_at hl 1 rfl) ?_
      refine pb_ald (j := 1536 + 1) hx hb hK hP 3 2 rfl rfl (by omega) (by decide) dX0_add_86 ?_
      refine pb_ast (j := n * 3 + 1) hx hb hK hP hD hS 3 2 rfl rfl (by omega) (by decide) dX0_add_87 (fun H locs hP hD hS => ?_)
      have hP : va_P (dC, dI) vwCl [(h0, .inr (0, [.ref h1, .ref h2, .ref h3, .int (nI (n))])), (h1, .inl (k1, 1539, .inl (pb_cp1 (pb_cp1 X n 0) n 1))), (h2, .inl (k2, 1539, .inl (pb_cp1 (pb_cp1 Y n 0) n 1))), (h3, .inl (k3, 1539, .inl (pb_cp1 (pb_cp1 Z n 0) n 1)))] H := hP
      have hD : va_D A [(h0, .inr (0, [.ref h1, .ref h2, .ref h3, .int (nI (n))])), (h1, .inl (k1, 1539, .inl (pb_cp1 (pb_cp1 X n 0) n 1))), (h2, .inl (k2, 1539, .inl (pb_cp1 (pb_cp1 Y n 0) n 1))), (h3, .inl (k3, 1539, .inl (pb_cp1 (pb_cp1 Z n 0) n 1)))] := hD
      refine lv_iinc (v := (nI (1 + 1))) (lv' := [(2, .int (nI (1 + 1))), (4, .int (nI (n * 3 + 1))), (3, .int (nI (1536 + 1))), (1, .int (nI (n))), (0, .ref h0)]) hx hb dX0_add_88 hl (k := 2) rfl (by exact (nI_1 (1))) (by decide) rfl (fun ls hl => ?_)
      refine lv_goto (tgt := 31) hx hb dX0_add_91 (by decide) ?_
      have hl : lv_has ls 5 [(2, .int (nI (2))), (4, .int (nI (n * 3 + 1))), (3, .int (nI (1536 + 1))), (1, .int (nI (n))), (0, .ref h0)] := hl
      refine lv_iload_n hx hb dX0_add_31 rfl (lv_at hl 0 rfl) ?_
      refine lv_iconst (v := nI 3) hx hb dX0_add_32 (by decide +kernel) ?_
      refine lv_icmp_ge (tgt := 94) hx hb dX0_add_33 (by decide) (fun q3 => ?_) (fun q3 => ?_)
      · exact absurd q3 (nI_ge (by decide) (by decide))
      clear q3
      refine lv_sipush (v := nI 1536) hx hb dX0_add_36 (by decide +kernel) ?_
      refine lv_iload_n hx hb dX0_add_39 rfl (lv_at hl 0 rfl) ?_
      refine lv_iadd hx hb dX0_add_40 ?_
      refine pb_eqi (nI_add _ _) ?_
      refine lv_istore_n (lv' := [(3, .int (nI (1536 + 2))), (2, .int (nI (2))), (4, .int (nI (n * 3 + 1))), (1, .int (nI (n))), (0, .ref h0)]) hx hb dX0_add_41 rfl hl (by decide) rfl (fun ls hl => ?_)
      refine lv_iload_n hx hb dX0_add_42 rfl (lv_at hl 3 rfl) ?_
      refine lv_iconst (v := nI 3) hx hb dX0_add_43 (by decide +kernel) ?_
      refine lv_imul hx hb dX0_add_44 ?_
      refine pb_eqi (pk_mul _ _) ?_
      refine lv_iload_n hx hb dX0_add_45 rfl (lv_at hl 1 rfl) ?_
      refine lv_iadd hx hb dX0_add_46 ?_
      refine pb_eqi (nI_add _ _) ?_
      refine lv_istore (lv' := [(4, .int (nI (n * 3 + 2))), (3, .int (nI (1536 + 2))), (2, .int (nI (2))), (1, .int (nI (n))), (0, .ref h0)]) hx hb dX0_add_47 hl (by decide) rfl (fun ls hl => ?_)
      refine lv_aload_n hx hb dX0_add_49 rfl (lv_at hl 4 rfl) ?_
      refine va_get (D := (dC, dI)) (ci := 0) (v := .ref h1) (C := RX0) (T := TX0) (N := 4) hx hb hts hin0 hown hK hP 0 rfl rfl 0 (by decide) (hts (.fieldLink RX0 9 "PieceBoxes" "xs" "[I") (by decide +kernel)) (fun _ h9 => h9) rfl dX0_add_50 ?_
      refine lv_iload hx hb dX0_add_53 (lv_at hl 0 rfl) ?_
      refine lv_aload_n hx hb dX0_add_55 rfl (lv_at hl 4 rfl) ?_
      refine va_get (D := (dC, dI)) (ci := 0) (v := .ref h1) (C := RX0) (T := TX0) (N := 4) hx hb hts hin0 hown hK hP 0 rfl rfl 0 (by decide) (hts (.fieldLink RX0 9 "PieceBoxes" "xs" "[I") (by decide +kernel)) (fun _ h9 => h9) rfl dX0_add_56 ?_
      refine lv_iload_n hx hb dX0_add_59 rfl (lv_at hl 1 rfl) ?_
      refine pb_ald (j := 1536 + 2) hx hb hK hP 1 0 rfl rfl (by omega) (by decide) dX0_add_60 ?_
      refine pb_ast (j := n * 3 + 2) hx hb hK hP hD hS 1 0 rfl rfl (by omega) (by decide) dX0_add_61 (fun H locs hP hD hS => ?_)
      have hP : va_P (dC, dI) vwCl [(h0, .inr (0, [.ref h1, .ref h2, .ref h3, .int (nI (n))])), (h1, .inl (k1, 1539, .inl (pb_cp1 (pb_cp1 (pb_cp1 X n 0) n 1) n 2))), (h2, .inl (k2, 1539, .inl (pb_cp1 (pb_cp1 Y n 0) n 1))), (h3, .inl (k3, 1539, .inl (pb_cp1 (pb_cp1 Z n 0) n 1)))] H := hP
      have hD : va_D A [(h0, .inr (0, [.ref h1, .ref h2, .ref h3, .int (nI (n))])), (h1, .inl (k1, 1539, .inl (pb_cp1 (pb_cp1 (pb_cp1 X n 0) n 1) n 2))), (h2, .inl (k2, 1539, .inl (pb_cp1 (pb_cp1 Y n 0) n 1))), (h3, .inl (k3, 1539, .inl (pb_cp1 (pb_cp1 Z n 0) n 1)))] := hD
      refine lv_aload_n hx hb dX0_add_62 rfl (lv_at hl 4 rfl) ?_
      refine va_get (D := (dC, dI)) (ci := 0) (v := .ref h2) (C := RX0) (T := TX0) (N := 4) hx hb hts hin0 hown hK hP 0 rfl rfl 1 (by decide) (hts (.fieldLink RX0 13 "PieceBoxes" "ys" "[I") (by decide +kernel)) (fun _ h9 => h9) rfl dX0_add_63 ?_
      refine lv_iload hx hb dX0_add_66 (lv_at hl 0 rfl) ?_
      refine lv_aload_n hx hb dX0_add_68 rfl (lv_at hl 4 rfl) ?_
      refine va_get (D := (dC, dI)) (ci := 0) (v := .ref h2) (C := RX0) (T := TX0) (N := 4) hx hb hts hin0 hown hK hP 0 rfl rfl 1 (by decide) (hts (.fieldLink RX0 13 "PieceBoxes" "ys" "[I") (by decide +kernel)) (fun _ h9 => h9) rfl dX0_add_69 ?_
      refine lv_iload_n hx hb dX0_add_72 rfl (lv_at hl 1 rfl) ?_
      refine pb_ald (j := 1536 + 2) hx hb hK hP 2 1 rfl rfl (by omega) (by decide) dX0_add_73 ?_
      refine pb_ast (j := n * 3 + 2) hx hb hK hP hD hS 2 1 rfl rfl (by omega) (by decide) dX0_add_74 (fun H locs hP hD hS => ?_)
      have hP : va_P (dC, dI) vwCl [(h0, .inr (0, [.ref h1, .ref h2, .ref h3, .int (nI (n))])), (h1, .inl (k1, 1539, .inl (pb_cp1 (pb_cp1 (pb_cp1 X n 0) n 1) n 2))), (h2, .inl (k2, 1539, .inl (pb_cp1 (pb_cp1 (pb_cp1 Y n 0) n 1) n 2))), (h3, .inl (k3, 1539, .inl (pb_cp1 (pb_cp1 Z n 0) n 1)))] H := hP
      have hD : va_D A [(h0, .inr (0, [.ref h1, .ref h2, .ref h3, .int (nI (n))])), (h1, .inl (k1, 1539, .inl (pb_cp1 (pb_cp1 (pb_cp1 X n 0) n 1) n 2))), (h2, .inl (k2, 1539, .inl (pb_cp1 (pb_cp1 (pb_cp1 Y n 0) n 1) n 2))), (h3, .inl (k3, 1539, .inl (pb_cp1 (pb_cp1 Z n 0) n 1)))] := hD
      refine lv_aload_n hx hb dX0_add_75 rfl (lv_at hl 4 rfl) ?_
      refine va_get (D := (dC, dI)) (ci := 0) (v := .ref h3) (C := RX0) (T := TX0) (N := 4) hx hb hts hin0 hown hK hP 0 rfl rfl 2 (by decide) (hts (.fieldLink RX0 16 "PieceBoxes" "rs" "[I") (by decide +kernel)) (fun _ h9 => h9) rfl dX0_add_76 ?_
      refine lv_iload hx hb dX0_add_79 (lv_at hl 0 rfl) ?_
      refine lv_aload_n hx hb dX0_add_81 rfl (lv_at hl 4 rfl) ?_
      refine va_get (D := (dC, dI)) (ci := 0) (v := .ref h3) (C := RX0) (T := TX0) (N := 4) hx hb hts hin0 hown hK hP 0 rfl rfl 2 (by decide) (hts (.fieldLink RX0 16 "PieceBoxes" "rs" "[I") (by decide +kernel)) (fun _ h9 => h9) rfl dX0_add_82 ?_
      refine lv_iload_n hx hb dX0_add_85 rfl (lv_at hl 1 rfl) ?_
      refine pb_ald (j := 1536 + 2) hx hb hK hP 3 2 rfl rfl (by omega) (by decide) dX0_add_86 ?_
      refine pb_ast (j := n * 3 + 2) hx hb hK hP hD hS 3 2 rfl rfl (by omega) (by decide) dX0_add_87 (fun H locs hP hD hS => ?_)
      have hP : va_P (dC, dI) vwCl [(h0, .inr (0, [.ref h1, .ref h2, .ref h3, .int (nI (n))])), (h1, .inl (k1, 1539, .inl (pb_cp1 (pb_cp1 (pb_cp1 X n 0) n 1) n 2))), (h2, .inl (k2, 1539, .inl (pb_cp1 (pb_cp1 (pb_cp1 Y n 0) n 1) n 2))), (h3, .inl (k3, 1539, .inl (pb_cp1 (pb_cp1 (pb_cp1 Z n 0) n 1) n 2)))] H := hP
      have hD : va_D A [(h0, .inr (0, [.ref h1, .ref h2, .ref h3, .int (nI (n))])), (h1, .inl (k1, 1539, .inl (pb_cp1 (pb_cp1 (pb_cp1 X n 0) n 1) n 2))), (h2, .inl (k2, 1539, .inl (pb_cp1 (pb_cp1 (pb_cp1 Y n 0) n 1) n 2))), (h3, .inl (k3, 1539, .inl (pb_cp1 (pb_cp1 (pb_cp1 Z n 0) n 1) n 2)))] := hD
      refine lv_iinc (v := (nI (2 + 1))) (lv' := [(2, .int (nI (2 + 1))), (4, .int (nI (n * 3 + 2))), (3, .int (nI (1536 + 2))), (1, .int (nI (n))), (0, .ref h0)]) hx hb dX0_add_88 hl (k := 2) rfl (by exact (nI_1 (2))) (by decide) rfl (fun ls hl => ?_)
      refine lv_goto (tgt := 31) hx hb dX0_add_91 (by decide) ?_
      have hl : lv_has ls 5 [(2, .int (nI (3))), (4, .int (nI (n * 3 + 2))), (3, .int (nI (1536 + 2))), (1, .int (nI (n))), (0, .ref h0)] := hl
      refine lv_iload_n hx hb dX0_add_31 rfl (lv_at hl 0 rfl) ?_
      refine lv_iconst (v := nI 3) hx hb dX0_add_32 (by decide +kernel) ?_
      refine lv_icmp_ge (tgt := 94) hx hb dX0_add_33 (by decide) (fun q4 => ?_) (fun q4 => ?_)
      · -- all three are copied
        refine lv_aload_n hx hb dX0_add_94 rfl (lv_at hl 4 rfl) ?_
        refine lv_iload_n hx hb dX0_add_95 rfl (lv_at hl 3 rfl) ?_
        refine lv_iconst (v := nI 1) hx hb dX0_add_96 (by decide +kernel) ?_
        refine lv_iadd hx hb dX0_add_97 ?_
        refine pb_eqi (nI_add _ _) ?_
        refine va_put (D := (dC, dI)) (ci := 0) (v := .int (nI (n + 1))) (ty := .int) (C := RX0) (T := TX0) (N := 4) hx hb hts hin0 tyX0 tyX0_ok nmX0 hown hK hP hD hS 0 rfl rfl 3 (by decide) (hts (.fieldLink RX0 19 "PieceBoxes" "pieces" "I") (by decide +kernel)) (fun _ h9 => h9) rfl (by decide +kernel) rfl rfl (Nat.le_of_ble_eq_true rfl) dX0_add_98 (fun H locs hP hD hS => ?_)
        have hP : va_P (dC, dI) vwCl [(h0, .inr (0, [.ref h1, .ref h2, .ref h3, .int (nI (n + 1))])), (h1, .inl (k1, 1539, .inl (pb_cp1 (pb_cp1 (pb_cp1 X n 0) n 1) n 2))), (h2, .inl (k2, 1539, .inl (pb_cp1 (pb_cp1 (pb_cp1 Y n 0) n 1) n 2))), (h3, .inl (k3, 1539, .inl (pb_cp1 (pb_cp1 (pb_cp1 Z n 0) n 1) n 2)))] H := hP
        have hD : va_D A [(h0, .inr (0, [.ref h1, .ref h2, .ref h3, .int (nI (n + 1))])), (h1, .inl (k1, 1539, .inl (pb_cp1 (pb_cp1 (pb_cp1 X n 0) n 1) n 2))), (h2, .inl (k2, 1539, .inl (pb_cp1 (pb_cp1 (pb_cp1 Y n 0) n 1) n 2))), (h3, .inl (k3, 1539, .inl (pb_cp1 (pb_cp1 (pb_cp1 Z n 0) n 1) n 2)))] := hD
        refine lv_iload_n hx hb dX0_add_101 rfl (lv_at hl 3 rfl) ?_
        exact W.iret (v := (nI (n))) hx hb hr (fun t ht hW => ⟨⟨(nI (n)), (), rfl, by rw [hok]; rfl, by rw [hok]; rw [ht]; exact hP, by rw [hok]; exact hD⟩, hS.F ht⟩) hS.2.2 dX0_add_102
      · exact absurd (nI_le (Nat.le_refl 3) (by decide)) q4
    · -- no area
      have q2 : ¬ 0 < pb_ar X Y 512 := fun h => q2 ((lg_cmp_gt _ _).mpr h)
      have hok : (pb_add X Y n) = false := by simp [pb_add, q2]
      refine lv_iconst (v := (-1)) hx hb dX0_add_22 (by decide +kernel) ?_
      exact W.iret (v := (-1)) hx hb hr (fun t ht hW => ⟨⟨(-1), (), rfl, by rw [hok]; rfl, by rw [hok]; rw [ht]; exact hP, by rw [hok]; exact hD⟩, hS.F ht⟩) hS.2.2 dX0_add_23
