set_option maxHeartbeats 4000000 in
set_option maxRecDepth 100000 in
theorem cR_init (l : Launch) (dC : Nat → ClassId) (dI : Nat → Nat → Nat) (g0 : Nat) (sz : Nat)  : Met l yX1_init wsX1_init ({ frames := 1, cells := 1, slots := 4617, locals := 12 }) (va_Pc [.ref g0] (fun U => U.heap.size = sz ∧ va_P (dC, dI) vwCl [(g0, .inr (1, [.int 0, .int 0, .null]))] U.heap ∧ va_K (dC, dI) vwCl [] U ∧ va_D (fun _ => True) [(g0, .inr (1, [.int 0, .int 0, .null]))])) (va_Qv (fun (_ : Unit) => True) (fun (_ : Unit) (t : State) => ∃ (g1 : Nat) (r1 : ClassId), va_P (dC, dI) vwCl (wR g0 g1 r1 pb_m0 0) t.heap ∧ va_K (dC, dI) vwCl (tR r1) t ∧ va_D (va_A [(g0, .inr (1, [.int 0, .int 0, .null]))] sz) (wR g0 g1 r1 pb_m0 0)) (va_A [(g0, .inr (1, [.int 0, .int 0, .null]))] sz)) 1 4617 (va_A [(g0, .inr (1, [.int 0, .int 0, .null]))] sz) := by
  refine Met.ofW (cc := cX1_init) (maxL := 2) (ret := none) (by decide) rfl ?_
  intro p e s m args below meth c s₁ B hml hv
  obtain ⟨rfl, hsz, hP, hK, hD0⟩ := hv
  have hx := B.exec
  have hb := B.bytes
  have hr := B.returns
  have hts := atoms_spec (ws := wsX1_init) B.pre
  have hown : s.vm.findClass RX1 = some m.cls := findClass_of_methodNamed B.named
  have hlocks := B.notSynchronized
  have hin : meth.name = "<init>" := (name_of_methodNamed B.named B.method).1
  have hin1 : ∀ w ∈ u_ws RX1 TX1 3, w ∈ wsX1_init := by decide +kernel
  subst hsz
  have hD := hD0.self (sz := s.heap.size)
  generalize hAe : va_A [(g0, .inr (1, [.int 0, .int 0, .null]))] s.heap.size = A at hD ⊢
  have hA : ∀ q : Nat, s.heap.size ≤ q → A q := fun q h => by rw [← hAe]; exact Or.inr h
  have hS : va_S A s.heap s.heap [] := va_S.rf
  have hl := lv_entry ([.ref g0]) (n := 2) (Nat.le_of_ble_eq_true rfl)
  rw [lg_entry_eq]
  generalize (lg_sl ([.ref g0]) ++ List.replicate (2 - (lg_sl ([.ref g0])).length) Slot.unset).toArray = ls at hl ⊢
  have hl : lv_has ls 2 [(0, .ref g0)] := hl
  refine lv_aload_n hx hb dX1_init_0 rfl (lv_at hl 0 rfl) ?_
  refine W.objInit hx hb hown (hts (.methodLink RX1 1 objectInit) (by decide +kernel)) (hts (.instanceMethod objectInit) (by decide +kernel)) (hts _ (List.mem_cons_of_mem _ (List.mem_append_left _ (List.mem_of_getElem? (i := 2) rfl)))) rfl (by rw [hml]; exact hl.1) rfl dX1_init_1 (Nat.le_of_ble_eq_true rfl) (Nat.le_of_ble_eq_true rfl) ?_
  refine W.eq (g2 := F0 m 4 ls []) rfl ?_
  refine lv_aload_n hx hb dX1_init_4 rfl (lv_at hl 0 rfl) ?_
  refine lv_sipush (v := nI 4617) hx hb dX1_init_5 (by decide +kernel) ?_
  refine va_newa (atype := .int) (ty := .int) (n := nI 4617) (N' := 4617) (a0 := (4617, .inl (fun _ => 0))) hx hb (hts (.arrayClass .int) (by decide +kernel)) rfl hK hP hD hS hA (pb_cell0 4617) (by decide +kernel) (by decide +kernel) (by decide +kernel) (show 1 ≤ 1 by decide) (show 4617 ≤ 4617 by decide) dX1_init_8 (fun g1 r1 H hK hP hD hS => ?_)
  have hP : va_P (dC, dI) vwCl [(g0, .inr (1, [.int (0), .int (0), .null])), (g1, .inl (r1, 4617, .inl ((fun _ => 0))))] H := hP
  have hD : va_D A [(g0, .inr (1, [.int (0), .int (0), .null])), (g1, .inl (r1, 4617, .inl ((fun _ => 0))))] := hD
  have hK : va_K (dC, dI) vwCl [(r1, .int)] s := hK
  refine W.widen (k := 1) (n := 4617) (by omega) (by omega) ?_
  refine va_putF (D := (dC, dI)) (ci := 1) (v := .ref g1) (ty := (.array .int)) (C := RX1) (T := TX1) (N := 3) hx hb hts hin1 tyX1 tyX1_ok nmX1 hown hK hP hD hS 0 rfl rfl 2 (by decide) (hts (.fieldLink RX1 7 "PieceBoxesModel" "corners" "[I") (by decide +kernel)) (fun _ h9 => h9) rfl hin rfl (by decide +kernel) rfl rfl (Nat.le_of_ble_eq_true rfl) dX1_init_10 (fun H locs hP hD hS => ?_)
  have hP : va_P (dC, dI) vwCl [(g0, .inr (1, [.int (0), .int (0), .ref g1])), (g1, .inl (r1, 4617, .inl ((fun _ => 0))))] H := hP
  have hD : va_D A [(g0, .inr (1, [.int (0), .int (0), .ref g1])), (g1, .inl (r1, 4617, .inl ((fun _ => 0))))] := hD
  refine lv_iconst (v := nI 0) hx hb dX1_init_13 (by decide +kernel) ?_
  refine lv_istore_n (lv' := [(1, .int (nI (0))), (0, .ref g0)]) hx hb dX1_init_14 rfl hl (by decide) rfl (fun ls hl => ?_)
  refine lv_iload_n hx hb dX1_init_15 rfl (lv_at hl 0 rfl) ?_
  refine lv_iconst (v := nI 3) hx hb dX1_init_16 (by decide +kernel) ?_
  refine lv_icmp_ge (tgt := 41) hx hb dX1_init_17 (by decide) (fun q1 => ?_) (fun q1 => ?_)
  · exact absurd q1 (nI_ge (by decide) (by decide))
  clear q1
  refine lv_aload_n hx hb dX1_init_20 rfl (lv_at hl 1 rfl) ?_
  refine va_get (D := (dC, dI)) (ci := 1) (v := .ref g1) (C := RX1) (T := TX1) (N := 3) hx hb hts hin1 hown hK hP 0 rfl rfl 2 (by decide) (hts (.fieldLink RX1 7 "PieceBoxesModel" "corners" "[I") (by decide +kernel)) (fun _ h9 => h9) rfl dX1_init_21 ?_
  refine lv_sipush (v := nI 4608) hx hb dX1_init_24 (by decide +kernel) ?_
  refine lv_iconst (v := nI 3) hx hb dX1_init_27 (by decide +kernel) ?_
  refine lv_iload_n hx hb dX1_init_28 rfl (lv_at hl 0 rfl) ?_
  refine lv_imul hx hb dX1_init_29 ?_
  refine pb_eqi (pk_mul _ _) ?_
  refine lv_iadd hx hb dX1_init_30 ?_
  refine pb_eqi (nI_add _ _) ?_
  refine lv_iconst (v := nI 2) hx hb dX1_init_31 (by decide +kernel) ?_
  refine lv_iadd hx hb dX1_init_32 ?_
  refine pb_eqi (nI_add _ _) ?_
  refine lv_iconst (v := 1) hx hb dX1_init_33 (by decide +kernel) ?_
  refine pb_ast (j := 4608 + (3 * 0) + 2) hx hb hK hP hD hS 1 0 rfl rfl (by omega) (by decide) dX1_init_34 (fun H locs hP hD hS => ?_)
  have hP : va_P (dC, dI) vwCl [(g0, .inr (1, [.int (0), .int (0), .ref g1])), (g1, .inl (r1, 4617, .inl (upd ((fun _ => 0)) (4608 + (3 * 0) + 2) (1))))] H := hP
  have hD : va_D A [(g0, .inr (1, [.int (0), .int (0), .ref g1])), (g1, .inl (r1, 4617, .inl (upd ((fun _ => 0)) (4608 + (3 * 0) + 2) (1))))] := hD
  refine lv_iinc (v := (nI (0 + 1))) (lv' := [(1, .int (nI (0 + 1))), (0, .ref g0)]) hx hb dX1_init_35 hl (k := 0) rfl (by exact (nI_1 (0))) (by decide) rfl (fun ls hl => ?_)
  refine lv_goto (tgt := 15) hx hb dX1_init_38 (by decide) ?_
  have hl : lv_has ls 2 [(1, .int (nI (1))), (0, .ref g0)] := hl
  refine lv_iload_n hx hb dX1_init_15 rfl (lv_at hl 0 rfl) ?_
  refine lv_iconst (v := nI 3) hx hb dX1_init_16 (by decide +kernel) ?_
  refine lv_icmp_ge (tgt := 41) hx hb dX1_init_17 (by decide) (fun q1 => ?_) (fun q1 => ?_)
  · exact absurd q1 (nI_ge (by decide) (by decide))
  clear q1
  refine lv_aload_n hx hb dX1_init_20 rfl (lv_at hl 1 rfl) ?_
  refine va_get (D := (dC, dI)) (ci := 1) (v := .ref g1) (C := RX1) (T := TX1) (N := 3) hx hb hts hin1 hown hK hP 0 rfl rfl 2 (by decide) (hts (.fieldLink RX1 7 "PieceBoxesModel" "corners" "[I") (by decide +kernel)) (fun _ h9 => h9) rfl dX1_init_21 ?_
  refine lv_sipush (v := nI 4608) hx hb dX1_init_24 (by decide +kernel) ?_
  refine lv_iconst (v := nI 3) hx hb dX1_init_27 (by decide +kernel) ?_
  refine lv_iload_n hx hb dX1_init_28 rfl (lv_at hl 0 rfl) ?_
  refine lv_imul hx hb dX1_init_29 ?_
  refine pb_eqi (pk_mul _ _) ?_
  refine lv_iadd hx hb dX1_init_30 ?_
  refine pb_eqi (nI_add _ _) ?_
  refine lv_iconst (v := nI 2) hx hb dX1_init_31 (by decide +kernel) ?_
  refine lv_iadd hx hb dX1_init_32 ?_
  refine pb_eqi (nI_add _ _) ?_
  refine lv_iconst (v := 1) hx hb dX1_init_33 (by decide +kernel) ?_
  refine pb_ast (j := 4608 + (3 * 1) + 2) hx hb hK hP hD hS 1 0 rfl rfl (by omega) (by decide) dX1_init_34 (fun H locs hP hD hS => ?_)
  have hP : va_P (dC, dI) vwCl [(g0, .inr (1, [.int (0), .int (0), .ref g1])), (g1, .inl (r1, 4617, .inl (upd (upd ((fun _ => 0)) (4608 + (3 * 0) + 2) (1)) (4608 + (3 * 1) + 2) (1))))] H := hP
  have hD : va_D A [(g0, .inr (1, [.int (0), .int (0), .ref g1])), (g1, .inl (r1, 4617, .inl (upd (upd ((fun _ => 0)) (4608 + (3 * 0) + 2) (1)) (4608 + (3 * 1) + 2) (1))))] := hD
  refine lv_iinc (v := (nI (1 + 1))) (lv' := [(1, .int (nI (1 + 1))), (0, .ref g0)]) hx hb dX1_init_35 hl (k := 0) rfl (by exact (nI_1 (1))) (by decide) rfl (fun ls hl => ?_)
  refine lv_goto (tgt := 15) hx hb dX1_init_38 (by decide) ?_
  have hl : lv_has ls 2 [(1, .int (nI (2))), (0, .ref g0)] := hl
  refine lv_iload_n hx hb dX1_init_15 rfl (lv_at hl 0 rfl) ?_
  refine lv_iconst (v := nI 3) hx hb dX1_init_16 (by decide +kernel) ?_
  refine lv_icmp_ge (tgt := 41) hx hb dX1_init_17 (by decide) (fun q1 => ?_) (fun q1 => ?_)
  · exact absurd q1 (nI_ge (by decide) (by decide))
  clear q1
  refine lv_aload_n hx hb dX1_init_20 rfl (lv_at hl 1 rfl) ?_
  refine va_get (D := (dC, dI)) (ci := 1) (v := .ref g1) (C := RX1) (T := TX1) (N := 3) hx hb hts hin1 hown hK hP 0 rfl rfl 2 (by decide) (hts (.fieldLink RX1 7 "PieceBoxesModel" "corners" "[I") (by decide +kernel)) (fun _ h9 => h9) rfl dX1_init_21 ?_
  refine lv_sipush (v := nI 4608) hx hb dX1_init_24 (by decide +kernel) ?_
  refine lv_iconst (v := nI 3) hx hb dX1_init_27 (by decide +kernel) ?_
  refine lv_iload_n hx hb dX1_init_28 rfl (lv_at hl 0 rfl) ?_
  refine lv_imul hx hb dX1_init_29 ?_
  refine pb_eqi (pk_mul _ _) ?_
  refine lv_iadd hx hb dX1_init_30 ?_
  refine pb_eqi (nI_add _ _) ?_
  refine lv_iconst (v := nI 2) hx hb dX1_init_31 (by decide +kernel) ?_
  refine lv_iadd hx hb dX1_init_32 ?_
  refine pb_eqi (nI_add _ _) ?_
  refine lv_iconst (v := 1) hx hb dX1_init_33 (by decide +kernel) ?_
  refine pb_ast (j := 4608 + (3 * 2) + 2) hx hb hK hP hD hS 1 0 rfl rfl (by omega) (by decide) dX1_init_34 (fun H locs hP hD hS => ?_)
  have hP : va_P (dC, dI) vwCl [(g0, .inr (1, [.int (0), .int (0), .ref g1])), (g1, .inl (r1, 4617, .inl (upd (upd (upd ((fun _ => 0)) (4608 + (3 * 0) + 2) (1)) (4608 + (3 * 1) + 2) (1)) (4608 + (3 * 2) + 2) (1))))] H := hP
  have hD : va_D A [(g0, .inr (1, [.int (0), .int (0), .ref g1])), (g1, .inl (r1, 4617, .inl (upd (upd (upd ((fun _ => 0)) (4608 + (3 * 0) + 2) (1)) (4608 + (3 * 1) + 2) (1)) (4608 + (3 * 2) + 2) (1))))] := hD
  refine lv_iinc (v := (nI (2 + 1))) (lv' := [(1, .int (nI (2 + 1))), (0, .ref g0)]) hx hb dX1_init_35 hl (k := 0) rfl (by exact (nI_1 (2))) (by decide) rfl (fun ls hl => ?_)
  refine lv_goto (tgt := 15) hx hb dX1_init_38 (by decide) ?_
  have hl : lv_has ls 2 [(1, .int (nI (3))), (0, .ref g0)] := hl
  refine lv_iload_n hx hb dX1_init_15 rfl (lv_at hl 0 rfl) ?_
  refine lv_iconst (v := nI 3) hx hb dX1_init_16 (by decide +kernel) ?_
  refine lv_icmp_ge (tgt := 41) hx hb dX1_init_17 (by decide) (fun q2 => ?_) (fun q2 => ?_)
  · -- the end
    exact W.vret hx hb hr (fun t ht hW => ⟨⟨(), rfl, trivial, g1, r1, by rw [ht]; exact hP, va_K.moved hW.alike hK, hD⟩, hS.F ht⟩) hS.2.2 dX1_init_41
  · exact absurd (nI_le (Nat.le_refl 3) (by decide)) q2
