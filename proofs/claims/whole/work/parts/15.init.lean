theorem pb_cell0 (N : Nat) (cA : ClassId) : vp_cell cA (N, .inl (fun _ => 0)) = arrV cA N (fun _ => defaultValue .int) := rfl
set_option maxHeartbeats 4000000 in
set_option maxRecDepth 100000 in
/-- a new box -/
theorem cC_init (l : Launch) (dC : Nat → ClassId) (dI : Nat → Nat → Nat) (h0 : Nat) (sz : Nat)  : Met l yX0_init wsX0_init ({ frames := 1, cells := 3, slots := 4617, locals := 12 }) (va_Pc [.ref h0] (fun U => U.heap.size = sz ∧ va_P (dC, dI) vwCl [(h0, .inr (0, [.null, .null, .null, .int 0]))] U.heap ∧ va_K (dC, dI) vwCl [] U ∧ va_D (fun _ => True) [(h0, .inr (0, [.null, .null, .null, .int 0]))])) (va_Qv (fun (_ : Unit) => True) (fun (_ : Unit) (t : State) => ∃ (h1 h2 h3 : Nat) (k1 k2 k3 : ClassId), va_P (dC, dI) vwCl (wC h0 h1 h2 h3 k1 k2 k3 pb_z pb_z pb_z1 0) t.heap ∧ va_K (dC, dI) vwCl (tC k1 k2 k3) t ∧ va_D (va_A [(h0, .inr (0, [.null, .null, .null, .int 0]))] sz) (wC h0 h1 h2 h3 k1 k2 k3 pb_z pb_z pb_z1 0)) (va_A [(h0, .inr (0, [.null, .null, .null, .int 0]))] sz)) 3 4617 (va_A [(h0, .inr (0, [.null, .null, .null, .int 0]))] sz) := by
  refine Met.ofW (cc := cX0_init) (maxL := 3) (ret := none) (by decide) rfl ?_
  intro p e s m args below meth c s₁ B hml hv
  obtain ⟨rfl, hsz, hP, hK, hD0⟩ := hv
  have hx := B.exec
  have hb := B.bytes
  have hr := B.returns
  have hts := atoms_spec (ws := wsX0_init) B.pre
  have hown : s.vm.findClass RX0 = some m.cls := findClass_of_methodNamed B.named
  have hlocks := B.notSynchronized
  have hin : meth.name = "<init>" := (name_of_methodNamed B.named B.method).1
  have hin0 : ∀ w ∈ u_ws RX0 TX0 4, w ∈ wsX0_init := by decide +kernel
  subst hsz
  have hD := hD0.self (sz := s.heap.size)
  generalize hAe : va_A [(h0, .inr (0, [.null, .null, .null, .int 0]))] s.heap.size = A at hD ⊢
  have hA : ∀ q : Nat, s.heap.size ≤ q → A q := fun q h => by rw [← hAe]; exact Or.inr h
  have hS : va_S A s.heap s.heap [] := va_S.rf
  have hl := lv_entry ([.ref h0]) (n := 3) (Nat.le_of_ble_eq_true rfl)
  rw [lg_entry_eq]
  generalize (lg_sl ([.ref h0]) ++ List.replicate (3 - (lg_sl ([.ref h0])).length) Slot.unset).toArray = ls at hl ⊢
  have hl : lv_has ls 3 [(0, .ref h0)] := hl
  refine lv_aload_n hx hb dX0_init_0 rfl (lv_at hl 0 rfl) ?_
  refine W.objInit hx hb hown (hts (.methodLink RX0 3 objectInit) (by decide +kernel)) (hts (.instanceMethod objectInit) (by decide +kernel)) (hts _ (List.mem_cons_of_mem _ (List.mem_append_left _ (List.mem_of_getElem? (i := 2) rfl)))) rfl (by rw [hml]; exact hl.1) rfl dX0_init_1 (Nat.le_of_ble_eq_true rfl) (Nat.le_of_ble_eq_true rfl) ?_
  refine W.eq (g2 := F0 m 4 ls []) rfl ?_
  refine lv_sipush (v := nI 1539) hx hb dX0_init_4 (by decide +kernel) ?_
  refine lv_istore_n (lv' := [(1, .int (nI (1539))), (0, .ref h0)]) hx hb dX0_init_7 rfl hl (by decide) rfl (fun ls hl => ?_)
  refine lv_aload_n hx hb dX0_init_8 rfl (lv_at hl 1 rfl) ?_
  refine lv_iload_n hx hb dX0_init_9 rfl (lv_at hl 0 rfl) ?_
  refine va_newa (atype := .int) (ty := .int) (n := nI 1539) (N' := 1539) (a0 := (1539, .inl (fun _ => 0))) hx hb (hts (.arrayClass .int) (by decide +kernel)) rfl hK hP hD hS hA (pb_cell0 1539) (by decide +kernel) (by decide +kernel) (by decide +kernel) (show 1 ≤ 3 by decide) (show 1539 ≤ 4617 by decide) dX0_init_10 (fun h1 k1 H hK hP hD hS => ?_)
  have hP : va_P (dC, dI) vwCl [(h0, .inr (0, [.null, .null, .null, .int (0)])), (h1, .inl (k1, 1539, .inl ((fun _ => 0))))] H := hP
  have hD : va_D A [(h0, .inr (0, [.null, .null, .null, .int (0)])), (h1, .inl (k1, 1539, .inl ((fun _ => 0))))] := hD
  have hK : va_K (dC, dI) vwCl [(k1, .int)] s := hK
  refine W.widen (k := 1) (n := 1539) (by omega) (by omega) ?_
  refine va_putF (D := (dC, dI)) (ci := 0) (v := .ref h1) (ty := (.array .int)) (C := RX0) (T := TX0) (N := 4) hx hb hts hin0 tyX0 tyX0_ok nmX0 hown hK hP hD hS 0 rfl rfl 0 (by decide) (hts (.fieldLink RX0 9 "PieceBoxes" "xs" "[I") (by decide +kernel)) (fun _ h9 => h9) rfl hin rfl (by decide +kernel) rfl rfl (Nat.le_of_ble_eq_true rfl) dX0_init_12 (fun H locs hP hD hS => ?_)
  have hP : va_P (dC, dI) vwCl [(h0, .inr (0, [.ref h1, .null, .null, .int (0)])), (h1, .inl (k1, 1539, .inl ((fun _ => 0))))] H := hP
  have hD : va_D A [(h0, .inr (0, [.ref h1, .null, .null, .int (0)])), (h1, .inl (k1, 1539, .inl ((fun _ => 0))))] := hD
  refine lv_aload_n hx hb dX0_init_15 rfl (lv_at hl 1 rfl) ?_
  refine lv_iload_n hx hb dX0_init_16 rfl (lv_at hl 0 rfl) ?_
  refine va_newa (atype := .int) (ty := .int) (n := nI 1539) (N' := 1539) (a0 := (1539, .inl (fun _ => 0))) hx hb (hts (.arrayClass .int) (by decide +kernel)) rfl hK hP hD hS hA (pb_cell0 1539) (by decide +kernel) (by decide +kernel) (by decide +kernel) (show 2 ≤ 3 by decide) (show 3078 ≤ 4617 by decide) dX0_init_17 (fun h2 k2 H hK hP hD hS => ?_)
  have hP : va_P (dC, dI) vwCl [(h0, .inr (0, [.ref h1, .null, .null, .int (0)])), (h1, .inl (k1, 1539, .inl ((fun _ => 0)))), (h2, .inl (k2, 1539, .inl ((fun _ => 0))))] H := hP
  have hD : va_D A [(h0, .inr (0, [.ref h1, .null, .null, .int (0)])), (h1, .inl (k1, 1539, .inl ((fun _ => 0)))), (h2, .inl (k2, 1539, .inl ((fun _ => 0))))] := hD
  have hK : va_K (dC, dI) vwCl [(k1, .int), (k2, .int)] s := hK
  refine W.widen (k := 2) (n := 3078) (by omega) (by omega) ?_
  refine va_putF (D := (dC, dI)) (ci := 0) (v := .ref h2) (ty := (.array .int)) (C := RX0) (T := TX0) (N := 4) hx hb hts hin0 tyX0 tyX0_ok nmX0 hown hK hP hD hS 0 rfl rfl 1 (by decide) (hts (.fieldLink RX0 13 "PieceBoxes" "ys" "[I") (by decide +kernel)) (fun _ h9 => h9) rfl hin rfl (by decide +kernel) rfl rfl (Nat.le_of_ble_eq_true rfl) dX0_init_19 (fun H locs hP hD hS => ?_)
  have hP : va_P (dC, dI) vwCl [(h0, .inr (0, [.ref h1, .ref h2, .null, .int (0)])), (h1, .inl (k1, 1539, .inl ((fun _ => 0)))), (h2, .inl (k2, 1539, .inl ((fun _ => 0))))] H := hP
  have hD : va_D A [(h0, .inr (0, [.ref h1, .ref h2, .null, .int (0)])), (h1, .inl (k1, 1539, .inl ((fun _ => 0)))), (h2, .inl (k2, 1539, .inl ((fun _ => 0))))] := hD
  refine lv_aload_n hx hb dX0_init_22 rfl (lv_at hl 1 rfl) ?_
  refine lv_iload_n hx hb dX0_init_23 rfl (lv_at hl 0 rfl) ?_
  refine va_newa (atype := .int) (ty := .int) (n := nI 1539) (N' := 1539) (a0 := (1539, .inl (fun _ => 0))) hx hb (hts (.arrayClass .int) (by decide +kernel)) rfl hK hP hD hS hA (pb_cell0 1539) (by decide +kernel) (by decide +kernel) (by decide +kernel) (show 3 ≤ 3 by decide) (show 4617 ≤ 4617 by decide) dX0_init_24 (fun h3 k3 H hK hP hD hS => ?_)
  have hP : va_P (dC, dI) vwCl [(h0, .inr (0, [.ref h1, .ref h2, .null, .int (0)])), (h1, .inl (k1, 1539, .inl ((fun _ => 0)))), (h2, .inl (k2, 1539, .inl ((fun _ => 0)))), (h3, .inl (k3, 1539, .inl ((fun _ => 0))))] H := hP
  have hD : va_D A [(h0, .inr (0, [.ref h1, .ref h2, .null, .int (0)])), (h1, .inl (k1, 1539, .inl ((fun _ => 0)))), (h2, .inl (k2, 1539, .inl ((fun _ => 0)))), (h3, .inl (k3, 1539, .inl ((fun _ => 0))))] := hD
  have hK : va_K (dC, dI) vwCl [(k1, .int), (k2, .int), (k3, .int)] s := hK
  refine W.widen (k := 3) (n := 4617) (by omega) (by omega) ?_
  refine va_putF (D := (dC, dI)) (ci := 0) (v := .ref h3) (ty := (.array .int)) (C := RX0) (T := TX0) (N := 4) hx hb hts hin0 tyX0 tyX0_ok nmX0 hown hK hP hD hS 0 rfl rfl 2 (by decide) (hts (.fieldLink RX0 16 "PieceBoxes" "rs" "[I") (by decide +kernel)) (fun _ h9 => h9) rfl hin rfl (by decide +kernel) rfl rfl (Nat.le_of_ble_eq_true rfl) dX0_init_26 (fun H locs hP hD hS => ?_)
  have hP : va_P (dC, dI) vwCl [(h0, .inr (0, [.ref h1, .ref h2, .ref h3, .int (0)])), (h1, .inl (k1, 1539, .inl ((fun _ => 0)))), (h2, .inl (k2, 1539, .inl ((fun _ => 0)))), (h3, .inl (k3, 1539, .inl ((fun _ => 0))))] H := hP
  have hD : va_D A [(h0, .inr (0, [.ref h1, .ref h2, .ref h3, .int (0)])), (h1, .inl (k1, 1539, .inl ((fun _ => 0)))), (h2, .inl (k2, 1539, .inl ((fun _ => 0)))), (h3, .inl (k3, 1539, .inl ((fun _ => 0))))] := hD
  refine lv_iconst (v := nI 0) hx hb dX0_init_29 (by decide +kernel) ?_
  refine lv_istore_n (lv' := [(2, .int (nI (0))), (1, .int (nI (1539))), (0, .ref h0)]) hx hb dX0_init_30 rfl hl (by decide) rfl (fun ls hl => ?_)
  refine lv_iload_n hx hb dX0_init_31 rfl (lv_at hl 0 rfl) ?_
  refine lv_iconst (v := nI 3) hx hb dX0_init_32 (by decide +kernel) ?_
  refine lv_icmp_ge (tgt := 53) hx hb dX0_init_33 (by decide) (fun q1 => ?_) (fun q1 => ?_)
  · exact absurd q1 (nI_ge (by decide) (by decide))
  clear q1
  refine lv_aload_n hx hb dX0_init_36 rfl (lv_at hl 2 rfl) ?_
  refine va_get (D := (dC, dI)) (ci := 0) (v := .ref h3) (C := RX0) (T := TX0) (N := 4) hx hb hts hin0 hown hK hP 0 rfl rfl 2 (by decide) (hts (.fieldLink RX0 16 "PieceBoxes" "rs" "[I") (by decide +kernel)) (fun _ h9 => h9) rfl dX0_init_37 ?_
  refine lv_sipush (v := nI 1536) hx hb dX0_init_40 (by decide +kernel) ?_
  refine lv_iload_n hx hb dX0_init_43 rfl (lv_at hl 0 rfl) ?_
  refine lv_iadd hx hb dX0_init_44 ?_
  refine pb_eqi (nI_add _ _) ?_
  refine lv_iconst (v := 1) hx hb dX0_init_45 (by decide +kernel) ?_
  refine pb_ast (j := 1536 + 0) hx hb hK hP hD hS 3 2 rfl rfl (by omega) (by decide) dX0_init_46 (fun H locs hP hD hS => ?_)
  have hP : va_P (dC, dI) vwCl [(h0, .inr (0, [.ref h1, .ref h2, .ref h3, .int (0)])), (h1, .inl (k1, 1539, .inl ((fun _ => 0)))), (h2, .inl (k2, 1539, .inl ((fun _ => 0)))), (h3, .inl (k3, 1539, .inl (upd ((fun _ => 0)) (1536 + 0) (1))))] H := hP
  have hD : va_D A [(h0, .inr (0, [.ref h1, .ref h2, .ref h3, .int (0)])), (h1, .inl (k1, 1539, .inl ((fun _ => 0)))), (h2, .inl (k2, 1539, .inl ((fun _ => 0)))), (h3, .inl (k3, 1539, .inl (upd ((fun _ => 0)) (1536 + 0) (1))))] := hD
  refine lv_iinc (v := (nI (0 + 1))) (lv' := [(2, .int (nI (0 + 1))), (1, .int (nI (1539))), (0, .ref h0)]) hx hb dX0_init_47 hl (k := 0) rfl (by exact (nI_1 (0))) (by decide) rfl (fun ls hl => ?_)
  refine lv_goto (tgt := 31) hx hb dX0_init_50 (by decide) ?_
  have hl : lv_has ls 3 [(2, .int (nI (1))), (1, .int (nI (1539))), (0, .ref h0)] := hl
  refine lv_iload_n hx hb dX0_init_31 rfl (lv_at hl 0 rfl) ?_
  refine lv_iconst (v := nI 3) hx hb dX0_init_32 (by decide +kernel) ?_
  refine lv_icmp_ge (tgt := 53) hx hb dX0_init_33 (by decide) (fun q1 => ?_) (fun q1 => ?_)
  · exact absurd q1 (nI_ge (by decide) (by decide))
  clear q1
  refine lv_aload_n hx hb dX0_init_36 rfl (lv_at hl 2 rfl) ?_
  refine va_get (D := (dC, dI)) (ci := 0) (v := .ref h3) (C := RX0) (T := TX0) (N := 4) hx hb hts hin0 hown hK hP 0 rfl rfl 2 (by decide) (hts (.fieldLink RX0 16 "PieceBoxes" "rs" "[I") (by decide +kernel)) (fun _ h9 => h9) rfl dX0_init_37 ?_
  refine lv_sipush (v := nI 1536) hx hb dX0_init_40 (by decide +kernel) ?_
  refine lv_iload_n hx hb dX0_init_43 rfl (lv_at hl 0 rfl) ?_
  refine lv_iadd hx hb dX0_init_44 ?_
  refine pb_eqi (nI_add _ _) ?_
  refine lv_iconst (v := 1) hx hb dX0_init_45 (by decide +kernel) ?_
  refine pb_ast (j := 1536 + 1) hx hb hK hP hD hS 3 2 rfl rfl (by omega) (by decide) dX0_init_46 (fun H locs hP hD hS => ?_)
  have hP : va_P (dC, dI) vwCl [(h0, .inr (0, [.ref h1, .ref h2, .ref h3, .int (0)])), (h1, .inl (k1, 1539, .inl ((fun _ => 0)))), (h2, .inl (k2, 1539, .inl ((fun _ => 0)))), (h3, .inl (k3, 1539, .inl (upd (upd ((fun _ => 0)) (1536 + 0) (1)) (1536 + 1) (1))))] H := hP
  have hD : va_D A [(h0, .inr (0, [.ref h1, .ref h2, .ref h3, .int (0)])), (h1, .inl (k1, 1539, .inl ((fun _ => 0)))), (h2, .inl (k2, 1539, .inl ((fun _ => 0)))), (h3, .inl (k3, 1539, .inl (upd (upd ((fun _ => 0)) (1536 + 0) (1)) (1536 + 1) (1))))] := hD
  refine lv_iinc (v := (nI (1 + 1))) (lv' := [(2, .int (nI (1 + 1))), (1, .int (nI (1539))), (0, .ref h0)]) hx hb dX0_init_47 hl (k := 0) rfl (by exact (nI_1 (1))) (by decide) rfl (fun ls hl => ?_)
  refine lv_goto (tgt := 31) hx hb dX0_init_50 (by decide) ?_
  have hl : lv_has ls 3 [(2, .int (nI (2))), (1, .int (nI (1539))), (0, .ref h0)] := hl
  refine lv_iload_n hx hb dX0_init_31 rfl (lv_at hl 0 rfl) ?_
  refine lv_iconst (v := nI 3) hx hb dX0_init_32 (by decide +kernel) ?_
  refine lv_icmp_ge (tgt := 53) hx hb dX0_init_33 (by decide) (fun q1 => ?_) (fun q1 => ?_)
  · exact absurd q1 (nI_ge (by decide) (by decide))
  clear q1
  refine lv_aload_n hx hb dX0_init_36 rfl (lv_at hl 2 rfl) ?_
  refine va_get (D := (dC, dI)) (ci := 0) (v := .ref h3) (C := RX0) (T := TX0) (N := 4) hx hb hts hin0 hown hK hP 0 rfl rfl 2 (by decide) (hts (.fieldLink RX0 16 "PieceBoxes" "rs" "[I") (by decide +kernel)) (fun _ h9 => h9) rfl dX0_init_37 ?_
  refine lv_sipush (v := nI 1536) hx hb dX0_init_40 (by decide +kernel) ?_
  refine lv_iload_n hx hb dX0_init_43 rfl (lv_at hl 0 rfl) ?_
  refine lv_iadd hx hb dX0_init_44 ?_
  refine pb_eqi (nI_add _ _) ?_
  refine lv_iconst (v := 1) hx hb dX0_init_45 (by decide +kernel) ?_
  refine pb_ast (j := 1536 + 2) hx hb hK hP hD hS 3 2 rfl rfl (by omega) (by decide) dX0_init_46 (fun H locs hP hD hS => ?_)
  have hP : va_P (dC, dI) vwCl [(h0, .inr (0, [.ref h1, .ref h2, .ref h3, .int (0)])), (h1, .inl (k1, 1539, .inl ((fun _ => 0)))), (h2, .inl (k2, 1539, .inl ((fun _ => 0)))), (h3, .inl (k3, 1539, .inl (upd (upd (upd ((fun _ => 0)) (1536 + 0) (1)) (1536 + 1) (1)) (1536 + 2) (1))))] H := hP
  have hD : va_D A [(h0, .inr (0, [.ref h1, .ref h2, .ref h3, .int (0)])), (h1, .inl (k1, 1539, .inl ((fun _ => 0)))), (h2, .inl (k2, 1539, .inl ((fun _ => 0)))), (h3, .inl (k3, 1539, .inl (upd (upd (upd ((fun _ => 0)) (1536 + 0) (1)) (1536 + 1) (1)) (1536 + 2) (1))))] := hD
  refine lv_iinc (v := (nI (2 + 1))) (lv' := [(2, .int (nI (2 + 1))), (1, .int (nI (1539))), (0, .ref h0)]) hx hb dX0_init_47 hl (k := 0) rfl (by exact (nI_1 (2))) (by decide) rfl (fun ls hl => ?_)
  refine lv_goto (tgt := 31) hx hb dX0_init_50 (by decide) ?_
  have hl : lv_has ls 3 [(2, .int (nI (3))), (1, .int (nI (1539))), (0, .ref h0)] := hl
  refine lv_iload_n hx hb dX0_init_31 rfl (lv_at hl 0 rfl) ?_
  refine lv_iconst (v := nI 3) hx hb dX0_init_32 (by decide +kernel) ?_
  refine lv_icmp_ge (tgt := 53) hx hb dX0_init_33 (by decide) (fun q2 => ?_) (fun q2 => ?_)
  · -- the end
    refine lv_aload_n hx hb dX0_init_53 rfl (lv_at hl 2 rfl) ?_
    refine lv_iconst (v := nI 0) hx hb dX0_init_54 (by decide +kernel) ?_
    refine va_put (D := (dC, dI)) (ci := 0) (v := .int (nI (0))) (ty := .int) (C := RX0) (T := TX0) (N := 4) hx hb hts hin0 tyX0 tyX0_ok nmX0 hown hK hP hD hS 0 rfl rfl 3 (by decide) (hts (.fieldLink RX0 19 "PieceBoxes" "pieces" "I") (by decide +kernel)) (fun _ h9 => h9) rfl (by decide +kernel) rfl rfl (Nat.le_of_ble_eq_true rfl) dX0_init_55 (fun H locs hP hD hS => ?_)
    have hP : va_P (dC, dI) vwCl [(h0, .inr (0, [.ref h1, .ref h2, .ref h3, .int (nI (0))])), (h1, .inl (k1, 1539, .inl ((fun _ => 0)))), (h2, .inl (k2, 1539, .inl ((fun _ => 0)))), (h3, .inl (k3, 1539, .inl (upd (upd (upd ((fun _ => 0)) (1536 + 0) (1)) (1536 + 1) (1)) (1536 + 2) (1))))] H := hP
    have hD : va_D A [(h0, .inr (0, [.ref h1, .ref h2, .ref h3, .int (nI (0))])), (h1, .inl (k1, 1539, .inl ((fun _ => 0)))), (h2, .inl (k2, 1539, .inl ((fun _ => 0)))), (h3, .inl (k3, 1539, .inl (upd (upd (upd ((fun _ => 0)) (1536 + 0) (1)) (1536 + 1) (1)) (1536 + 2) (1))))] := hD
    exact W.vret hx hb hr (fun t ht hW => ⟨⟨(), rfl, trivial, h1, h2, h3, k1, k2, k3, by rw [ht]; exact hP, va_K.moved hW.alike hK, hD⟩, hS.F ht⟩) hS.2.2 dX0_init_58
  · exact absurd (nI_le (Nat.le_refl 3) (by decide)) q2
