set_option maxHeartbeats 4000000 in
set_option maxRecDepth 100000 in
theorem law_c0 {p : Program} {l : Launch} {e : Env} {s : State} {m : MethodId} {below : List Frame} {meth : Method} {c : Code} {dC : Nat → ClassId} {dI : Nat → Nat → Nat} {b L : Nat} {xs : Nat → Int32} (hL : L ≤ 2560) (C0 : lw_At p s m meth c b L xs) {h0 h1 h2 h3 : Nat} {k1 k2 k3 : ClassId} {g0 g1 : Nat} {r1 : ClassId} {i : Nat} (hi : i + 5 ≤ L) (nx : pb_NX p l e s m below meth c dC dI b i h0 h1 h2 h3 k1 k2 k3 g0 g1 r1) (hK : va_K (dC, dI) vwCl (tL k1 k2 k3 r1) s) {M : Nat → Int32} {n : Nat} (hI : pb_LI M n) {H : Heap} {locs : List Loc} (hP : va_P (dC, dI) vwCl (wL h0 h1 h2 h3 k1 k2 k3 g0 g1 r1 M n) H) (hD : va_D (fun q : Nat => s.heap.size ≤ q) (wL h0 h1 h2 h3 k1 k2 k3 g0 g1 r1 M n)) (hS : va_S (fun q : Nat => s.heap.size ≤ q) s.heap H locs) {ls : Array Slot} (hl : lv_has ls 4 [(3, .int (nI (i))), (0, .ref b), (1, .ref h0), (2, .ref g0)]) : W p l e room_1 s m #[Value.ref b] below meth c H locs 6 9241 (lw_Z below #[Value.ref b] s) (F0 m 84 ls []) := by
  obtain ⟨hx, hb, hr, hml, hown, hts, hX, hbl, hlocks, hgv⟩ := C0
  have hts := fun w h => hts w (wsL_law_in w h)
  have hA : ∀ q : Nat, s.heap.size ≤ q → (fun q : Nat => s.heap.size ≤ q) q := fun _ h => h
  have hbA : ¬ (fun q : Nat => s.heap.size ≤ q) b := Nat.not_le.mpr hbl
  have hn := hI.1
  refine lv_aload_n hx hb dL_law_84 rfl (lv_at hl 2 rfl) ?_
  refine lv_aload_n hx hb dL_law_85 rfl (lv_at hl 1 rfl) ?_
  refine lv_iload_n hx hb dL_law_86 rfl (lv_at hl 0 rfl) ?_
  refine lv_iconst (v := nI 1) hx hb dL_law_87 (by decide +kernel) ?_
  refine lv_iadd hx hb dL_law_88 ?_
  refine pb_eqi (nI_add _ _) ?_
  refine pb_sld (j := i + 1) hx hb hX hbl hbA hS (by omega) (by omega) dL_law_89 ?_
  refine lv_aload_n hx hb dL_law_90 rfl (lv_at hl 1 rfl) ?_
  refine lv_iload_n hx hb dL_law_91 rfl (lv_at hl 0 rfl) ?_
  refine lv_iconst (v := nI 2) hx hb dL_law_92 (by decide +kernel) ?_
  refine lv_iadd hx hb dL_law_93 ?_
  refine pb_eqi (nI_add _ _) ?_
  refine pb_sld (j := i + 2) hx hb hX hbl hbA hS (by omega) (by omega) dL_law_94 ?_
  refine lv_aload_n hx hb dL_law_95 rfl (lv_at hl 1 rfl) ?_
  refine lv_iload_n hx hb dL_law_96 rfl (lv_at hl 0 rfl) ?_
  refine lv_iconst (v := nI 3) hx hb dL_law_97 (by decide +kernel) ?_
  refine lv_iadd hx hb dL_law_98 ?_
  refine pb_eqi (nI_add _ _) ?_
  refine pb_sld (j := i + 3) hx hb hX hbl hbA hS (by omega) (by omega) dL_law_99 ?_
  refine lv_aload_n hx hb dL_law_100 rfl (lv_at hl 1 rfl) ?_
  refine lv_iload_n hx hb dL_law_101 rfl (lv_at hl 0 rfl) ?_
  refine lv_iconst (v := nI 4) hx hb dL_law_102 (by decide +kernel) ?_
  refine lv_iadd hx hb dL_law_103 ?_
  refine pb_eqi (nI_add _ _) ?_
  refine pb_sld (j := i + 4) hx hb hX hbl hbA hS (by omega) (by omega) dL_law_104 ?_
  have hPc := hP.sub (ws' := (wC h0 h1 h2 h3 k1 k2 k3 (pr0 M) (pr1 M) (pr2 M) (n))) [0, 1, 2, 3] rfl
  have hDc := hD.sub (ws' := (wC h0 h1 h2 h3 k1 k2 k3 (pr0 M) (pr1 M) (pr2 M) (n))) [0, 1, 2, 3] (by decide) rfl
  have hKc := hK.sub (tys' := tC k1 k2 k3) [0, 1, 2] rfl
  have hFc := va_free (wc := (wC h0 h1 h2 h3 k1 k2 k3 (pr0 M) (pr1 M) (pr2 M) (n))) hD hS hA [0, 1, 2, 3] rfl
  refine va_calli (va_runV (As := [.int (xs (i + 1)), .int (xs (i + 2)), .int (xs (i + 3)), .int (xs (i + 4))]) (rest := []) ⟨hx, hb, hml, hown, hts⟩ (cC_corner l dC dI h0 h1 h2 h3 k1 k2 k3 (pr0 M) (pr1 M) (pr2 M) (n) H.size (xs (i + 1)) (xs (i + 2)) (xs (i + 3)) (xs (i + 4))) (cwV 4 hts gL_law_X0_corner rfl rfl rfl (by decide +kernel) ⟨Nat.le_of_ble_eq_true rfl, Nat.le_of_ble_eq_true rfl⟩) ⟨fun a U g mk q => by obtain ⟨q0, q1, qP, qK, qD⟩ := q; exact ⟨q0, q1, qP, va_K.moved (u := U) (U := U.calling g mk a) (Vm.Alike.refl U.vm) qK, qD⟩, va_recv hKc hPc (ci := 0) (q0 := 0) rfl rfl, fun U hU hW => ⟨rfl, by rw [hU], by rw [hU]; exact hPc, va_K.moved hW.alike hKc, hDc.weaken (fun _ _ _ _ => trivial)⟩⟩ rfl rfl hl.1 rfl (lv_room (Nat.le_of_ble_eq_true rfl)) dL_law_105 ⟨(show 6 ≤ 600000 by decide), (show 9241 ≤ 7302250 by decide)⟩) hS (fun q _ h => hFc q h) hFc (fun rr u t H1 locs ht hvm hw hB hz1 hk1 hS => ?_)
  obtain ⟨hP1, hD1⟩ := hB
  rw [ht] at hP1
  obtain ⟨hP, hD⟩ := va_join (wr := (wR g0 g1 r1 (M) (n))) (w1 := (wC h0 h1 h2 h3 k1 k2 k3 (pb_up (pb_ok (xs (i + 1)) (xs (i + 2)) (xs (i + 3)) (xs (i + 4))) (pr0 M) (1536 + (xs (i + 1)).toNatClampNeg) (xs (i + 2))) (pb_up (pb_ok (xs (i + 1)) (xs (i + 2)) (xs (i + 3)) (xs (i + 4))) (pr1 M) (1536 + (xs (i + 1)).toNatClampNeg) (xs (i + 3))) (pb_up (pb_ok (xs (i + 1)) (xs (i + 2)) (xs (i + 3)) (xs (i + 4))) (pr2 M) (1536 + (xs (i + 1)).toNatClampNeg) (xs (i + 4))) (n))) hP hD [0, 1, 2, 3] [4, 5] rfl rfl (by decide) (by decide) hk1 hFc hP1 hD1
  have hP := hP.sub (ws' := [(h0, .inr (0, [.ref h1, .ref h2, .ref h3, .int (nI (n))])), (h1, .inl (k1, 1539, .inl (pb_up (pb_ok (xs (i + 1)) (xs (i + 2)) (xs (i + 3)) (xs (i + 4))) (pr0 M) (1536 + (xs (i + 1)).toNatClampNeg) (xs (i + 2))))), (h2, .inl (k2, 1539, .inl (pb_up (pb_ok (xs (i + 1)) (xs (i + 2)) (xs (i + 3)) (xs (i + 4))) (pr1 M) (1536 + (xs (i + 1)).toNatClampNeg) (xs (i + 3))))), (h3, .inl (k3, 1539, .inl (pb_up (pb_ok (xs (i + 1)) (xs (i + 2)) (xs (i + 3)) (xs (i + 4))) (pr2 M) (1536 + (xs (i + 1)).toNatClampNeg) (xs (i + 4))))), (g0, .inr (1, [.int (nI 0), .int (nI (n)), .ref g1])), (g1, .inl (r1, 4617, .inl (M)))]) [2, 3, 4, 5, 0, 1] rfl
  have hD := hD.sub (ws' := [(h0, .inr (0, [.ref h1, .ref h2, .ref h3, .int (nI (n))])), (h1, .inl (k1, 1539, .inl (pb_up (pb_ok (xs (i + 1)) (xs (i + 2)) (xs (i + 3)) (xs (i + 4))) (pr0 M) (1536 + (xs (i + 1)).toNatClampNeg) (xs (i + 2))))), (h2, .inl (k2, 1539, .inl (pb_up (pb_ok (xs (i + 1)) (xs (i + 2)) (xs (i + 3)) (xs (i + 4))) (pr1 M) (1536 + (xs (i + 1)).toNatClampNeg) (xs (i + 3))))), (h3, .inl (k3, 1539, .inl (pb_up (pb_ok (xs (i + 1)) (xs (i + 2)) (xs (i + 3)) (xs (i + 4))) (pr2 M) (1536 + (xs (i + 1)).toNatClampNeg) (xs (i + 4))))), (g0, .inr (1, [.int (nI 0), .int (nI (n)), .ref g1])), (g1, .inl (r1, 4617, .inl (M)))]) [2, 3, 4, 5, 0, 1] (by decide) rfl
  generalize H1 = H at hP hS ⊢
  try dsimp only at hw
  subst hw
  clear hPc hDc hKc hFc hP1 hD1 hk1 ht
  refine lv_aload_n hx hb dL_law_108 rfl (lv_at hl 3 rfl) ?_
  refine lv_aload_n hx hb dL_law_109 rfl (lv_at hl 1 rfl) ?_
  refine lv_iload_n hx hb dL_law_110 rfl (lv_at hl 0 rfl) ?_
  refine lv_iconst (v := nI 1) hx hb dL_law_111 (by decide +kernel) ?_
  refine lv_iadd hx hb dL_law_112 ?_
  refine pb_eqi (nI_add _ _) ?_
  refine pb_sld (j := i + 1) hx hb hX hbl hbA hS (by omega) (by omega) dL_law_113 ?_
  refine lv_aload_n hx hb dL_law_114 rfl (lv_at hl 1 rfl) ?_
  refine lv_iload_n hx hb dL_law_115 rfl (lv_at hl 0 rfl) ?_
  refine lv_iconst (v := nI 2) hx hb dL_law_116 (by decide +kernel) ?_
  refine lv_iadd hx hb dL_law_117 ?_
  refine pb_eqi (nI_add _ _) ?_
  refine pb_sld (j := i + 2) hx hb hX hbl hbA hS (by omega) (by omega) dL_law_118 ?_
  refine lv_aload_n hx hb dL_law_119 rfl (lv_at hl 1 rfl) ?_
  refine lv_iload_n hx hb dL_law_120 rfl (lv_at hl 0 rfl) ?_
  refine lv_iconst (v := nI 3) hx hb dL_law_121 (by decide +kernel) ?_
  refine lv_iadd hx hb dL_law_122 ?_
  refine pb_eqi (nI_add _ _) ?_
  refine pb_sld (j := i + 3) hx hb hX hbl hbA hS (by omega) (by omega) dL_law_123 ?_
  refine lv_aload_n hx hb dL_law_124 rfl (lv_at hl 1 rfl) ?_
  refine lv_iload_n hx hb dL_law_125 rfl (lv_at hl 0 rfl) ?_
  refine lv_iconst (v := nI 4) hx hb dL_law_126 (by decide +kernel) ?_
  refine lv_iadd hx hb dL_law_127 ?_
  refine pb_eqi (nI_add _ _) ?_
  refine pb_sld (j := i + 4) hx hb hX hbl hbA hS (by omega) (by omega) dL_law_128 ?_
  have hPc := hP.sub (ws' := (wR g0 g1 r1 (M) (n))) [4, 5] rfl
  have hDc := hD.sub (ws' := (wR g0 g1 r1 (M) (n))) [4, 5] (by decide) rfl
  have hKc := hK.sub (tys' := tR r1) [3] rfl
  have hFc := va_free (wc := (wR g0 g1 r1 (M) (n))) hD hS hA [4, 5] rfl
  refine va_calli (va_runV (As := [.int (xs (i + 1)), .int (xs (i + 2)), .int (xs (i + 3)), .int (xs (i + 4))]) (rest := [.int (pb_b (pb_ok (xs (i + 1)) (xs (i + 2)) (xs (i + 3)) (xs (i + 4))))]) ⟨hx, hb, hml, hown, hts⟩ (cR_corner l dC dI g0 g1 r1 (M) (n) H.size (xs (i + 1)) (xs (i + 2)) (xs (i + 3)) (xs (i + 4))) (cwV 4 hts gL_law_X1_corner rfl rfl rfl (by decide +kernel) ⟨Nat.le_of_ble_eq_true rfl, Nat.le_of_ble_eq_true rfl⟩) ⟨fun a U g mk q => by obtain ⟨q0, q1, qP, qK, qD⟩ := q; exact ⟨q0, q1, qP, va_K.moved (u := U) (U := U.calling g mk a) (Vm.Alike.refl U.vm) qK, qD⟩, va_recv hKc hPc (ci := 1) (q0 := 0) rfl rfl, fun U hU hW => ⟨rfl, by rw [hU], by rw [hU]; exact hPc, va_K.moved hW.alike hKc, hDc.weaken (fun _ _ _ _ => trivial)⟩⟩ rfl rfl hl.1 rfl (lv_room (Nat.le_of_ble_eq_true rfl)) dL_law_129 ⟨(show 6 ≤ 600000 by decide), (show 9241 ≤ 7302250 by decide)⟩) hS (fun q _ h => hFc q h) hFc (fun rr u t H1 locs ht hvm hw hB hz1 hk1 hS => ?_)
  obtain ⟨hP1, hD1⟩ := hB
  rw [ht] at hP1
  obtain ⟨hP, hD⟩ := va_join (wr := (wC h0 h1 h2 h3 k1 k2 k3 (pb_up (pb_ok (xs (i + 1)) (xs (i + 2)) (xs (i + 3)) (xs (i + 4))) (pr0 M) (1536 + (xs (i + 1)).toNatClampNeg) (xs (i + 2))) (pb_up (pb_ok (xs (i + 1)) (xs (i + 2)) (xs (i + 3)) (xs (i + 4))) (pr1 M) (1536 + (xs (i + 1)).toNatClampNeg) (xs (i + 3))) (pb_up (pb_ok (xs (i + 1)) (xs (i + 2)) (xs (i + 3)) (xs (i + 4))) (pr2 M) (1536 + (xs (i + 1)).toNatClampNeg) (xs (i + 4))) (n))) (w1 := (wR g0 g1 r1 (pb_mk (pb_ok (xs (i + 1)) (xs (i + 2)) (xs (i + 3)) (xs (i + 4))) M (4608 + 3 * (xs (i + 1)).toNatClampNeg) (xs (i + 2)) (xs (i + 3)) (xs (i + 4))) (n))) hP hD [4, 5] [0, 1, 2, 3] rfl rfl (by decide) (by decide) hk1 hFc hP1 hD1
  have hP := hP.sub (ws' := [(h0, .inr (0, [.ref h1, .ref h2, .ref h3, .int (nI (n))])), (h1, .inl (k1, 1539, .inl (pb_up (pb_ok (xs (i + 1)) (xs (i + 2)) (xs (i + 3)) (xs (i + 4))) (pr0 M) (1536 + (xs (i + 1)).toNatClampNeg) (xs (i + 2))))), (h2, .inl (k2, 1539, .inl (pb_up (pb_ok (xs (i + 1)) (xs (i + 2)) (xs (i + 3)) (xs (i + 4))) (pr1 M) (1536 + (xs (i + 1)).toNatClampNeg) (xs (i + 3))))), (h3, .inl (k3, 1539, .inl (pb_up (pb_ok (xs (i + 1)) (xs (i + 2)) (xs (i + 3)) (xs (i + 4))) (pr2 M) (1536 + (xs (i + 1)).toNatClampNeg) (xs (i + 4))))), (g0, .inr (1, [.int (nI 0), .int (nI (n)), .ref g1])), (g1, .inl (r1, 4617, .inl (pb_mk (pb_ok (xs (i + 1)) (xs (i + 2)) (xs (i + 3)) (xs (i + 4))) M (4608 + 3 * (xs (i + 1)).toNatClampNeg) (xs (i + 2)) (xs (i + 3)) (xs (i + 4)))))]) [0, 1, 2, 3, 4, 5] rfl
  have hD := hD.sub (ws' := [(h0, .inr (0, [.ref h1, .ref h2, .ref h3, .int (nI (n))])), (h1, .inl (k1, 1539, .inl (pb_up (pb_ok (xs (i + 1)) (xs (i + 2)) (xs (i + 3)) (xs (i + 4))) (pr0 M) (1536 + (xs (i + 1)).toNatClampNeg) (xs (i + 2))))), (h2, .inl (k2, 1539, .inl (pb_up (pb_ok (xs (i + 1)) (xs (i + 2)) (xs (i + 3)) (xs (i + 4))) (pr1 M) (1536 + (xs (i + 1)).toNatClampNeg) (xs (i + 3))))), (h3, .inl (k3, 1539, .inl (pb_up (pb_ok (xs (i + 1)) (xs (i + 2)) (xs (i + 3)) (xs (i + 4))) (pr2 M) (1536 + (xs (i + 1)).toNatClampNeg) (xs (i + 4))))), (g0, .inr (1, [.int (nI 0), .int (nI (n)), .ref g1])), (g1, .inl (r1, 4617, .inl (pb_mk (pb_ok (xs (i + 1)) (xs (i + 2)) (xs (i + 3)) (xs (i + 4))) M (4608 + 3 * (xs (i + 1)).toNatClampNeg) (xs (i + 2)) (xs (i + 3)) (xs (i + 4)))))]) [0, 1, 2, 3, 4, 5] (by decide) rfl
  generalize H1 = H at hP hS ⊢
  try dsimp only at hw
  subst hw
  clear hPc hDc hKc hFc hP1 hD1 hk1 ht
  rw [← pb_rel_mk0 (pb_ok (xs (i + 1)) (xs (i + 2)) (xs (i + 3)) (xs (i + 4))) M (xs (i + 1)).toNatClampNeg (xs (i + 2)) (xs (i + 3)) (xs (i + 4)), ← pb_rel_mk1 (pb_ok (xs (i + 1)) (xs (i + 2)) (xs (i + 3)) (xs (i + 4))) M (xs (i + 1)).toNatClampNeg (xs (i + 2)) (xs (i + 3)) (xs (i + 4)), ← pb_rel_mk2 (pb_ok (xs (i + 1)) (xs (i + 2)) (xs (i + 3)) (xs (i + 4))) M (xs (i + 1)).toNatClampNeg (xs (i + 2)) (xs (i + 3)) (xs (i + 4))] at hP hD
  refine lv_icmp_eq (tgt := 349) hx hb dL_law_132 (by decide) (fun q1 => ?_) (fun q1 => ?_)
  · -- the same
    exact nx _ n (pb_LI_mk (xs (i + 1)) (xs (i + 2)) (xs (i + 3)) (xs (i + 4)) hI) H _ hP hD hS ls hl
  · exact absurd rfl q1
set_option maxHeartbeats 4000000 in
set_option maxRecDepth 100000 in
theorem law_c1 {p : Program} {l : Launch} {e : Env} {s : State} {m : MethodId} {below : List Frame} {meth : Method} {c : Code} {dC : Nat → ClassId} {dI : Nat → Nat → Nat} {b L : Nat} {xs : Nat → Int32} (hL : L ≤ 2560) (C0 : lw_At p s m meth c b L xs) {h0 h1 h2 h3 : Nat} {k1 k2 k3 : ClassId} {g0 g1 : Nat} {r1 : ClassId} {i : Nat} (hi : i + 5 ≤ L) (nx : pb_NX p l e s m below meth c dC dI b i h0 h1 h2 h3 k1 k2 k3 g0 g1 r1) (hK : va_K (dC, dI) vwCl (tL k1 k2 k3 r1) s) {M : Nat → Int32} {n : Nat} (hI : pb_LI M n) {H : Heap} {locs : List Loc} (hP : va_P (dC, dI) vwCl (wL h0 h1 h2 h3 k1 k2 k3 g0 g1 r1 M n) H) (hD : va_D (fun q : Nat => s.heap.size ≤ q) (wL h0 h1 h2 h3 k1 k2 k3 g0 g1 r1 M n)) (hS : va_S (fun q : Nat => s.heap.size ≤ q) s.heap H locs) {ls : Array Slot} (hl : lv_has ls 4 [(3, .int (nI (i))), (0, .ref b), (1, .ref h0), (2, .ref g0)]) : W p l e room_1 s m #[Value.ref b] below meth c H locs 6 9241 (lw_Z below #[Value.ref b] s) (F0 m 137 ls []) := by
  obtain ⟨hx, hb, hr, hml, hown, hts, hX, hbl, hlocks, hgv⟩ := C0
  have hts := fun w h => hts w (wsL_law_in w h)
  have hA : ∀ q : Nat, s.heap.size ≤ q → (fun q : Nat => s.heap.size ≤ q) q := fun _ h => h
  have hbA : ¬ (fun q : Nat => s.heap.size ≤ q) b := Nat.not_le.mpr hbl
  have hn := hI.1
  refine lv_aload_n hx hb dL_law_137 rfl (lv_at hl 2 rfl) ?_
  have hPc := hP.sub (ws' := (wC h0 h1 h2 h3 k1 k2 k3 (pr0 M) (pr1 M) (pr2 M) (n))) [0, 1, 2, 3] rfl
  have hDc := hD.sub (ws' := (wC h0 h1 h2 h3 k1 k2 k3 (pr0 M) (pr1 M) (pr2 M) (n))) [0, 1, 2, 3] (by decide) rfl
  have hKc := hK.sub (tys' := tC k1 k2 k3) [0, 1, 2] rfl
  have hFc := va_free (wc := (wC h0 h1 h2 h3 k1 k2 k3 (pr0 M) (pr1 M) (pr2 M) (n))) hD hS hA [0, 1, 2, 3] rfl
  refine va_calli (va_runV (As := []) (rest := []) ⟨hx, hb, hml, hown, hts⟩ (cC_add l dC dI h0 h1 h2 h3 k1 k2 k3 (pr0 M) (pr1 M) (pr2 M) (n) H.size hn) (cwV 0 hts gL_law_X0_add rfl rfl rfl (by decide +kernel) ⟨Nat.le_of_ble_eq_true rfl, Nat.le_of_ble_eq_true rfl⟩) ⟨fun a U g mk q => by obtain ⟨q0, q1, qP, qK, qD⟩ := q; exact ⟨q0, q1, qP, va_K.moved (u := U) (U := U.calling g mk a) (Vm.Alike.refl U.vm) qK, qD⟩, va_recv hKc hPc (ci := 0) (q0 := 0) rfl rfl, fun U hU hW => ⟨rfl, by rw [hU], by rw [hU]; exact hPc, va_K.moved hW.alike hKc, hDc.weaken (fun _ _ _ _ => trivial)⟩⟩ rfl rfl hl.1 rfl (lv_room (Nat.le_of_ble_eq_true rfl)) dL_law_138 ⟨(show 6 ≤ 600000 by decide), (show 9241 ≤ 7302250 by decide)⟩) hS (fun q _ h => hFc q h) hFc (fun rr u t H1 locs ht hvm hw hB hz1 hk1 hS => ?_)
  obtain ⟨hP1, hD1⟩ := hB
  rw [ht] at hP1
  obtain ⟨hP, hD⟩ := va_join (wr := (wR g0 g1 r1 (M) (n))) (w1 := (wC h0 h1 h2 h3 k1 k2 k3 (pb_if (pb_add (pr0 M) (pr1 M) n) (pb_cp (pr0 M) n) (pr0 M)) (pb_if (pb_add (pr0 M) (pr1 M) n) (pb_cp (pr1 M) n) (pr1 M)) (pb_if (pb_add (pr0 M) (pr1 M) n) (pb_cp (pr2 M) n) (pr2 M)) (pb_if (pb_add (pr0 M) (pr1 M) n) (n + 1) n))) hP hD [0, 1, 2, 3] [4, 5] rfl rfl (by decide) (by decide) hk1 hFc hP1 hD1
  have hP := hP.sub (ws' := [(h0, .inr (0, [.ref h1, .ref h2, .ref h3, .int (nI (pb_if (pb_add (pr0 M) (pr1 M) n) (n + 1) n))])), (h1, .inl (k1, 1539, .inl (pb_if (pb_add (pr0 M) (pr1 M) n) (pb_cp (pr0 M) n) (pr0 M)))), (h2, .inl (k2, 1539, .inl (pb_if (pb_add (pr0 M) (pr1 M) n) (pb_cp (pr1 M) n) (pr1 M)))), (h3, .inl (k3, 1539, .inl (pb_if (pb_add (pr0 M) (pr1 M) n) (pb_cp (pr2 M) n) (pr2 M)))), (g0, .inr (1, [.int (nI 0), .int (nI (n)), .ref g1])), (g1, .inl (r1, 4617, .inl (M)))]) [2, 3, 4, 5, 0, 1] rfl
  have hD := hD.sub (ws' := [(h0, .inr (0, [.ref h1, .ref h2, .ref h3, .int (nI (pb_if (pb_add (pr0 M) (pr1 M) n) (n + 1) n))])), (h1, .inl (k1, 1539, .inl (pb_if (pb_add (pr0 M) (pr1 M) n) (pb_cp (pr0 M) n) (pr0 M)))), (h2, .inl (k2, 1539, .inl (pb_if (pb_add (pr0 M) (pr1 M) n) (pb_cp (pr1 M) n) (pr1 M)))), (h3, .inl (k3, 1539, .inl (pb_if (pb_add (pr0 M) (pr1 M) n) (pb_cp (pr2 M) n) (pr2 M)))), (g0, .inr (1, [.int (nI 0), .int (nI (n)), .ref g1])), (g1, .inl (r1, 4617, .inl (M)))]) [2, 3, 4, 5, 0, 1] (by decide) rfl
  generalize H1 = H at hP hS ⊢
  try dsimp only at hw
  subst hw
  clear hPc hDc hKc hFc hP1 hD1 hk1 ht
  refine lv_aload_n hx hb dL_law_141 rfl (lv_at hl 3 rfl) ?_
  have hPc := hP.sub (ws' := (wR g0 g1 r1 (M) (n))) [4, 5] rfl
  have hDc := hD.sub (ws' := (wR g0 g1 r1 (M) (n))) [4, 5] (by decide) rfl
  have hKc := hK.sub (tys' := tR r1) [3] rfl
  have hFc := va_free (wc := (wR g0 g1 r1 (M) (n))) hD hS hA [4, 5] rfl
  refine va_calli (va_runV (As := []) (rest := [.int (pb_if (pb_add (pr0 M) (pr1 M) n) (nI n) (-1))]) ⟨hx, hb, hml, hown, hts⟩ (cR_add l dC dI g0 g1 r1 (M) (n) H.size hn) (cwV 0 hts gL_law_X1_add rfl rfl rfl (by decide +kernel) ⟨Nat.le_of_ble_eq_true rfl, Nat.le_of_ble_eq_true rfl⟩) ⟨fun a U g mk q => by obtain ⟨q0, q1, qP, qK, qD⟩ := q; exact ⟨q0, q1, qP, va_K.moved (u := U) (U := U.calling g mk a) (Vm.Alike.refl U.vm) qK, qD⟩, va_recv hKc hPc (ci := 1) (q0 := 0) rfl rfl, fun U hU hW => ⟨rfl, by rw [hU], by rw [hU]; exact hPc, va_K.moved hW.alike hKc, hDc.weaken (fun _ _ _ _ => trivial)⟩⟩ rfl rfl hl.1 rfl (lv_room (Nat.le_of_ble_eq_true rfl)) dL_law_142 ⟨(show 6 ≤ 600000 by decide), (show 9241 ≤ 7302250 by decide)⟩) hS (fun q _ h => hFc q h) hFc (fun rr u t H1 locs ht hvm hw hB hz1 hk1 hS => ?_)
  obtain ⟨hP1, hD1⟩ := hB
  rw [ht] at hP1
  obtain ⟨hP, hD⟩ := va_join (wr := (wC h0 h1 h2 h3 k1 k2 k3 (pb_if (pb_add (pr0 M) (pr1 M) n) (pb_cp (pr0 M) n) (pr0 M)) (pb_if (pb_add (pr0 M) (pr1 M) n) (pb_cp (pr1 M) n) (pr1 M)) (pb_if (pb_add (pr0 M) (pr1 M) n) (pb_cp (pr2 M) n) (pr2 M)) (pb_if (pb_add (pr0 M) (pr1 M) n) (n + 1) n))) (w1 := (wR g0 g1 r1 (pb_if (pb_add (pr0 M) (pr1 M) n) (pb_cq M n 9) M) (pb_if (pb_add (pr0 M) (pr1 M) n) (n + 1) n))) hP hD [4, 5] [0, 1, 2, 3] rfl rfl (by decide) (by decide) hk1 hFc hP1 hD1
  have hP := hP.sub (ws' := [(h0, .inr (0, [.ref h1, .ref h2, .ref h3, .int (nI (pb_if (pb_add (pr0 M) (pr1 M) n) (n + 1) n))])), (h1, .inl (k1, 1539, .inl (pb_if (pb_add (pr0 M) (pr1 M) n) (pb_cp (pr0 M) n) (pr0 M)))), (h2, .inl (k2, 1539, .inl (pb_if (pb_add (pr0 M) (pr1 M) n) (pb_cp (pr1 M) n) (pr1 M)))), (h3, .inl (k3, 1539, .inl (pb_if (pb_add (pr0 M) (pr1 M) n) (pb_cp (pr2 M) n) (pr2 M)))), (g0, .inr (1, [.int (nI 0), .int (nI (pb_if (pb_add (pr0 M) (pr1 M) n) (n + 1) n)), .ref g1])), (g1, .inl (r1, 4617, .inl (pb_if (pb_add (pr0 M) (pr1 M) n) (pb_cq M n 9) M)))]) [0, 1, 2, 3, 4, 5] rfl
  have hD := hD.sub (ws' := [(h0, .inr (0, [.ref h1, .ref h2, .ref h3, .int (nI (pb_if (pb_add (pr0 M) (pr1 M) n) (n + 1) n))])), (h1, .inl (k1, 1539, .inl (pb_if (pb_add (pr0 M) (pr1 M) n) (pb_cp (pr0 M) n) (pr0 M)))), (h2, .inl (k2, 1539, .inl (pb_if (pb_add (pr0 M) (pr1 M) n) (pb_cp (pr1 M) n) (pr1 M)))), (h3, .inl (k3, 1539, .inl (pb_if (pb_add (pr0 M) (pr1 M) n) (pb_cp (pr2 M) n) (pr2 M)))), (g0, .inr (1, [.int (nI 0), .int (nI (pb_if (pb_add (pr0 M) (pr1 M) n) (n + 1) n)), .ref g1])), (g1, .inl (r1, 4617, .inl (pb_if (pb_add (pr0 M) (pr1 M) n) (pb_cq M n 9) M)))]) [0, 1, 2, 3, 4, 5] (by decide) rfl
  generalize H1 = H at hP hS ⊢
  try dsimp only at hw
  subst hw
  clear hPc hDc hKc hFc hP1 hD1 hk1 ht
  rw [← pb_rel_add0 M n, ← pb_rel_add1 M n, ← pb_rel_add2 M n] at hP hD
  refine lv_icmp_eq (tgt := 349) hx hb dL_law_145 (by decide) (fun q1 => ?_) (fun q1 => ?_)
  · -- the same
    exact nx _ _ (pb_LI_add hI) H _ hP hD hS ls hl
  · exact absurd rfl q1
set_option maxHeartbeats 4000000 in
set_option maxRecDepth 100000 in
theorem law_c2 {p : Program} {l : Launch} {e : Env} {s : State} {m : MethodId} {below : List Frame} {meth : Method} {c : Code} {dC : Nat → ClassId} {dI : Nat → Nat → Nat} {b L : Nat} {xs : Nat → Int32} (hL : L ≤ 2560) (C0 : lw_At p s m meth c b L xs) {h0 h1 h2 h3 : Nat} {k1 k2 k3 : ClassId} {g0 g1 : Nat} {r1 : ClassId} {i : Nat} (hi : i + 5 ≤ L) (nx : pb_NX p l e s m below meth c dC dI b i h0 h1 h2 h3 k1 k2 k3 g0 g1 r1) (hK : va_K (dC, dI) vwCl (tL k1 k2 k3 r1) s) {M : Nat → Int32} {n : Nat} (hI : pb_LI M n) {H : Heap} {locs : List Loc} (hP : va_P (dC, dI) vwCl (wL h0 h1 h2 h3 k1 k2 k3 g0 g1 r1 M n) H) (hD : va_D (fun q : Nat => s.heap.size ≤ q) (wL h0 h1 h2 h3 k1 k2 k3 g0 g1 r1 M n)) (hS : va_S (fun q : Nat => s.heap.size ≤ q) s.heap H locs) {ls : Array Slot} (hl : lv_has ls 4 [(3, .int (nI (i))), (0, .ref b), (1, .ref h0), (2, .ref g0)]) : W p l e room_1 s m #[Value.ref b] below meth c H locs 6 9241 (lw_Z below #[Value.ref b] s) (F0 m 150 ls []) := by
  obtain ⟨hx, hb, hr, hml, hown, hts, hX, hbl, hlocks, hgv⟩ := C0
  have hts := fun w h => hts w (wsL_law_in w h)
  have hA : ∀ q : Nat, s.heap.size ≤ q → (fun q : Nat => s.heap.size ≤ q) q := fun _ h => h
  have hbA : ¬ (fun q : Nat => s.heap.size ≤ q) b := Nat.not_le.mpr hbl
  have hn := hI.1
  refine lv_aload_n hx hb dL_law_150 rfl (lv_at hl 2 rfl) ?_
  have hPc := hP.sub (ws' := (wC h0 h1 h2 h3 k1 k2 k3 (pr0 M) (pr1 M) (pr2 M) (n))) [0, 1, 2, 3] rfl
  have hDc := hD.sub (ws' := (wC h0 h1 h2 h3 k1 k2 k3 (pr0 M) (pr1 M) (pr2 M) (n))) [0, 1, 2, 3] (by decide) rfl
  have hKc := hK.sub (tys' := tC k1 k2 k3) [0, 1, 2] rfl
  have hFc := va_free (wc := (wC h0 h1 h2 h3 k1 k2 k3 (pr0 M) (pr1 M) (pr2 M) (n))) hD hS hA [0, 1, 2, 3] rfl
  refine va_callv (va_runV (As := []) (rest := []) ⟨hx, hb, hml, hown, hts⟩ (cC_clear l dC dI h0 h1 h2 h3 k1 k2 k3 (pr0 M) (pr1 M) (pr2 M) (n) H.size ) (cwV 0 hts gL_law_X0_clear rfl rfl rfl (by decide +kernel) ⟨Nat.le_of_ble_eq_true rfl, Nat.le_of_ble_eq_true rfl⟩) ⟨fun a U g mk q => by obtain ⟨q0, q1, qP, qK, qD⟩ := q; exact ⟨q0, q1, qP, va_K.moved (u := U) (U := U.calling g mk a) (Vm.Alike.refl U.vm) qK, qD⟩, va_recv hKc hPc (ci := 0) (q0 := 0) rfl rfl, fun U hU hW => ⟨rfl, by rw [hU], by rw [hU]; exact hPc, va_K.moved hW.alike hKc, hDc.weaken (fun _ _ _ _ => trivial)⟩⟩ rfl rfl hl.1 rfl (lv_room (Nat.le_of_ble_eq_true rfl)) dL_law_151 ⟨(show 6 ≤ 600000 by decide), (show 9241 ≤ 7302250 by decide)⟩) hS (fun q _ h => hFc q h) hFc (fun u t H1 locs ht hvm hw hB hz1 hk1 hS => ?_)
  obtain ⟨hP1, hD1⟩ := hB
  rw [ht] at hP1
  obtain ⟨hP, hD⟩ := va_join (wr := (wR g0 g1 r1 (M) (n))) (w1 := (wC h0 h1 h2 h3 k1 k2 k3 (pr0 M) (pr1 M) (pr2 M) (0))) hP hD [0, 1, 2, 3] [4, 5] rfl rfl (by decide) (by decide) hk1 hFc hP1 hD1
  have hP := hP.sub (ws' := [(h0, .inr (0, [.ref h1, .ref h2, .ref h3, .int (nI (0))])), (h1, .inl (k1, 1539, .inl (pr0 M))), (h2, .inl (k2, 1539, .inl (pr1 M))), (h3, .inl (k3, 1539, .inl (pr2 M))), (g0, .inr (1, [.int (nI 0), .int (nI (n)), .ref g1])), (g1, .inl (r1, 4617, .inl (M)))]) [2, 3, 4, 5, 0, 1] rfl
  have hD := hD.sub (ws' := [(h0, .inr (0, [.ref h1, .ref h2, .ref h3, .int (nI (0))])), (h1, .inl (k1, 1539, .inl (pr0 M))), (h2, .inl (k2, 1539, .inl (pr1 M))), (h3, .inl (k3, 1539, .inl (pr2 M))), (g0, .inr (1, [.int (nI 0), .int (nI (n)), .ref g1])), (g1, .inl (r1, 4617, .inl (M)))]) [2, 3, 4, 5, 0, 1] (by decide) rfl
  generalize H1 = H at hP hS ⊢
  clear hPc hDc hKc hFc hP1 hD1 hk1 ht hw
  refine lv_aload_n hx hb dL_law_154 rfl (lv_at hl 3 rfl) ?_
  have hPc := hP.sub (ws' := (wR g0 g1 r1 (M) (n))) [4, 5] rfl
  have hDc := hD.sub (ws' := (wR g0 g1 r1 (M) (n))) [4, 5] (by decide) rfl
  have hKc := hK.sub (tys' := tR r1) [3] rfl
  have hFc := va_free (wc := (wR g0 g1 r1 (M) (n))) hD hS hA [4, 5] rfl
  refine va_callv (va_runV (As := []) (rest := []) ⟨hx, hb, hml, hown, hts⟩ (cR_clear l dC dI g0 g1 r1 (M) (n) H.size ) (cwV 0 hts gL_law_X1_clear rfl rfl rfl (by decide +kernel) ⟨Nat.le_of_ble_eq_true rfl, Nat.le_of_ble_eq_true rfl⟩) ⟨fun a U g mk q => by obtain ⟨q0, q1, qP, qK, qD⟩ := q; exact ⟨q0, q1, qP, va_K.moved (u := U) (U := U.calling g mk a) (Vm.Alike.refl U.vm) qK, qD⟩, va_recv hKc hPc (ci := 1) (q0 := 0) rfl rfl, fun U hU hW => ⟨rfl, by rw [hU], by rw [hU]; exact hPc, va_K.moved hW.alike hKc, hDc.weaken (fun _ _ _ _ => trivial)⟩⟩ rfl rfl hl.1 rfl (lv_room (Nat.le_of_ble_eq_true rfl)) dL_law_155 ⟨(show 6 ≤ 600000 by decide), (show 9241 ≤ 7302250 by decide)⟩) hS (fun q _ h => hFc q h) hFc (fun u t H1 locs ht hvm hw hB hz1 hk1 hS => ?_)
  obtain ⟨hP1, hD1⟩ := hB
  rw [ht] at hP1
  obtain ⟨hP, hD⟩ := va_join (wr := (wC h0 h1 h2 h3 k1 k2 k3 (pr0 M) (pr1 M) (pr2 M) (0))) (w1 := (wR g0 g1 r1 (M) (0))) hP hD [4, 5] [0, 1, 2, 3] rfl rfl (by decide) (by decide) hk1 hFc hP1 hD1
  have hP := hP.sub (ws' := [(h0, .inr (0, [.ref h1, .ref h2, .ref h3, .int (nI (0))])), (h1, .inl (k1, 1539, .inl (pr0 M))), (h2, .inl (k2, 1539, .inl (pr1 M))), (h3, .inl (k3, 1539, .inl (pr2 M))), (g0, .inr (1, [.int (nI 0), .int (nI (0)), .ref g1])), (g1, .inl (r1, 4617, .inl (M)))]) [0, 1, 2, 3, 4, 5] rfl
  have hD := hD.sub (ws' := [(h0, .inr (0, [.ref h1, .ref h2, .ref h3, .int (nI (0))])), (h1, .inl (k1, 1539, .inl (pr0 M))), (h2, .inl (k2, 1539, .inl (pr1 M))), (h3, .inl (k3, 1539, .inl (pr2 M))), (g0, .inr (1, [.int (nI 0), .int (nI (0)), .ref g1])), (g1, .inl (r1, 4617, .inl (M)))]) [0, 1, 2, 3, 4, 5] (by decide) rfl
  generalize H1 = H at hP hS ⊢
  clear hPc hDc hKc hFc hP1 hD1 hk1 ht hw
  refine lv_goto (tgt := 349) hx hb dL_law_158 (by decide) ?_
  exact nx M 0 (pb_LI_clear hI) H _ hP hD hS ls hl
