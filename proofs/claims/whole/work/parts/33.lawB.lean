set_option maxHeartbeats 4000000 in
set_option maxRecDepth 100000 in
theorem law_c3 {p : Program} {l : Launch} {e : Env} {s : State} {m : MethodId} {below : List Frame} {meth : Method} {c : Code} {dC : Nat → ClassId} {dI : Nat → Nat → Nat} {b L : Nat} {xs : Nat → Int32} (hL : L ≤ 2560) (C0 : lw_At p s m meth c b L xs) {h0 h1 h2 h3 : Nat} {k1 k2 k3 : ClassId} {g0 g1 : Nat} {r1 : ClassId} {i : Nat} (hi : i + 5 ≤ L) (nx : pb_NX p l e s m below meth c dC dI b i h0 h1 h2 h3 k1 k2 k3 g0 g1 r1) (hK : va_K (dC, dI) vwCl (tL k1 k2 k3 r1) s) {M : Nat → Int32} {n : Nat} (hI : pb_LI M n) {H : Heap} {locs : List Loc} (hP : va_P (dC, dI) vwCl (wL h0 h1 h2 h3 k1 k2 k3 g0 g1 r1 M n) H) (hD : va_D (fun q : Nat => s.heap.size ≤ q) (wL h0 h1 h2 h3 k1 k2 k3 g0 g1 r1 M n)) (hS : va_S (fun q : Nat => s.heap.size ≤ q) s.heap H locs) {ls : Array Slot} (hl : lv_has ls 4 [(3, .int (nI (i))), (0, .ref b), (1, .ref h0), (2, .ref g0)]) : W p l e room_1 s m #[Value.ref b] below meth c H locs 6 9241 (lw_Z below #[Value.ref b] s) (F0 m 161 ls []) := by
  obtain ⟨hx, hb, hr, hml, hown, hts, hX, hbl, hlocks, hgv⟩ := C0
  have hts := fun w h => hts w (wsL_law_in w h)
  have hA : ∀ q : Nat, s.heap.size ≤ q → (fun q : Nat => s.heap.size ≤ q) q := fun _ h => h
  have hbA : ¬ (fun q : Nat => s.heap.size ≤ q) b := Nat.not_le.mpr hbl
  have hn := hI.1
  refine lv_aload_n hx hb dL_law_161 rfl (lv_at hl 2 rfl) ?_
  have hPc := hP.sub (ws' := (wC h0 h1 h2 h3 k1 k2 k3 (pr0 M) (pr1 M) (pr2 M) (n))) [0, 1, 2, 3] rfl
  have hKc := hK.sub (tys' := tC k1 k2 k3) [0, 1, 2] rfl
  refine pb_call (W.runV (As := []) (rest := []) ⟨hx, hb, hml, hown, hts⟩ (cC_count l dC dI h0 h1 h2 h3 k1 k2 k3 (pr0 M) (pr1 M) (pr2 M) (n) ) (cwV 0 hts gL_law_X0_count rfl rfl rfl (by decide +kernel) ⟨Nat.le_of_ble_eq_true rfl, Nat.le_of_ble_eq_true rfl⟩) (preC_V hPc hKc _) rfl rfl hl.1 rfl (lv_room (Nat.le_of_ble_eq_true rfl)) dL_law_162 ⟨(show 6 ≤ 600000 by decide), (show 9241 ≤ 7302250 by decide)⟩) ?_
  refine lv_aload_n hx hb dL_law_165 rfl (lv_at hl 3 rfl) ?_
  have hPc := hP.sub (ws' := (wR g0 g1 r1 (M) (n))) [4, 5] rfl
  have hDc := hD.sub (ws' := (wR g0 g1 r1 (M) (n))) [4, 5] (by decide) rfl
  have hKc := hK.sub (tys' := tR r1) [3] rfl
  have hFc := va_free (wc := (wR g0 g1 r1 (M) (n))) hD hS hA [4, 5] rfl
  refine va_calli (va_runV (As := []) (rest := [.int (nI n)]) ⟨hx, hb, hml, hown, hts⟩ (cR_count l dC dI g0 g1 r1 (M) (n) H.size ) (cwV 0 hts gL_law_X1_count rfl rfl rfl (by decide +kernel) ⟨Nat.le_of_ble_eq_true rfl, Nat.le_of_ble_eq_true rfl⟩) ⟨fun a U g mk q => by obtain ⟨q0, q1, qP, qK, qD⟩ := q; exact ⟨q0, q1, qP, va_K.moved (u := U) (U := U.calling g mk a) (Vm.Alike.refl U.vm) qK, qD⟩, va_recv hKc hPc (ci := 1) (q0 := 0) rfl rfl, fun U hU hW => ⟨rfl, by rw [hU], by rw [hU]; exact hPc, va_K.moved hW.alike hKc, hDc.weaken (fun _ _ _ _ => trivial)⟩⟩ rfl rfl hl.1 rfl (lv_room (Nat.le_of_ble_eq_true rfl)) dL_law_166 ⟨(show 6 ≤ 600000 by decide), (show 9241 ≤ 7302250 by decide)⟩) hS (fun q _ h => hFc q h) hFc (fun rr u t H1 locs ht hvm hw hB hz1 hk1 hS => ?_)
  obtain ⟨hP1, hD1⟩ := hB
  rw [ht] at hP1
  obtain ⟨hP, hD⟩ := va_join (wr := (wC h0 h1 h2 h3 k1 k2 k3 (pr0 M) (pr1 M) (pr2 M) (n))) (w1 := (wR g0 g1 r1 (M) (n))) hP hD [4, 5] [0, 1, 2, 3] rfl rfl (by decide) (by decide) hk1 hFc hP1 hD1
  have hP := hP.sub (ws' := [(h0, .inr (0, [.ref h1, .ref h2, .ref h3, .int (nI (n))])), (h1, .inl (k1, 1539, .inl (pr0 M))), (h2, .inl (k2, 1539, .inl (pr1 M))), (h3, .inl (k3, 1539, .inl (pr2 M))), (g0, .inr (1, [.int (nI 0), .int (nI (n)), .ref g1])), (g1, .inl (r1, 4617, .inl (M)))]) [0, 1, 2, 3, 4, 5] rfl
  have hD := hD.sub (ws' := [(h0, .inr (0, [.ref h1, .ref h2, .ref h3, .int (nI (n))])), (h1, .inl (k1, 1539, .inl (pr0 M))), (h2, .inl (k2, 1539, .inl (pr1 M))), (h3, .inl (k3, 1539, .inl (pr2 M))), (g0, .inr (1, [.int (nI 0), .int (nI (n)), .ref g1])), (g1, .inl (r1, 4617, .inl (M)))]) [0, 1, 2, 3, 4, 5] (by decide) rfl
  generalize H1 = H at hP hS ⊢
  try dsimp only at hw
  subst hw
  clear hPc hDc hKc hFc hP1 hD1 hk1 ht
  refine lv_icmp_eq (tgt := 349) hx hb dL_law_169 (by decide) (fun q1 => ?_) (fun q1 => ?_)
  · -- the same
    exact nx M n hI H _ hP hD hS ls hl
  · exact absurd rfl q1
set_option maxHeartbeats 4000000 in
set_option maxRecDepth 100000 in
theorem law_c4 {p : Program} {l : Launch} {e : Env} {s : State} {m : MethodId} {below : List Frame} {meth : Method} {c : Code} {dC : Nat → ClassId} {dI : Nat → Nat → Nat} {b L : Nat} {xs : Nat → Int32} (hL : L ≤ 2560) (C0 : lw_At p s m meth c b L xs) {h0 h1 h2 h3 : Nat} {k1 k2 k3 : ClassId} {g0 g1 : Nat} {r1 : ClassId} {i : Nat} (hi : i + 5 ≤ L) (nx : pb_NX p l e s m below meth c dC dI b i h0 h1 h2 h3 k1 k2 k3 g0 g1 r1) (hK : va_K (dC, dI) vwCl (tL k1 k2 k3 r1) s) {M : Nat → Int32} {n : Nat} (hI : pb_LI M n) {H : Heap} {locs : List Loc} (hP : va_P (dC, dI) vwCl (wL h0 h1 h2 h3 k1 k2 k3 g0 g1 r1 M n) H) (hD : va_D (fun q : Nat => s.heap.size ≤ q) (wL h0 h1 h2 h3 k1 k2 k3 g0 g1 r1 M n)) (hS : va_S (fun q : Nat => s.heap.size ≤ q) s.heap H locs) {ls : Array Slot} (hl : lv_has ls 4 [(3, .int (nI (i))), (0, .ref b), (1, .ref h0), (2, .ref g0)]) : W p l e room_1 s m #[Value.ref b] below meth c H locs 6 9241 (lw_Z below #[Value.ref b] s) (F0 m 174 ls []) := by
  obtain ⟨hx, hb, hr, hml, hown, hts, hX, hbl, hlocks, hgv⟩ := C0
  have hts := fun w h => hts w (wsL_law_in w h)
  have hA : ∀ q : Nat, s.heap.size ≤ q → (fun q : Nat => s.heap.size ≤ q) q := fun _ h => h
  have hbA : ¬ (fun q : Nat => s.heap.size ≤ q) b := Nat.not_le.mpr hbl
  have hn := hI.1
  refine lv_aload_n hx hb dL_law_174 rfl (lv_at hl 2 rfl) ?_
  refine lv_aload_n hx hb dL_law_175 rfl (lv_at hl 1 rfl) ?_
  refine lv_iload_n hx hb dL_law_176 rfl (lv_at hl 0 rfl) ?_
  refine lv_iconst (v := nI 1) hx hb dL_law_177 (by decide +kernel) ?_
  refine lv_iadd hx hb dL_law_178 ?_
  refine pb_eqi (nI_add _ _) ?_
  refine pb_sld (j := i + 1) hx hb hX hbl hbA hS (by omega) (by omega) dL_law_179 ?_
  have hPc := hP.sub (ws' := (wC h0 h1 h2 h3 k1 k2 k3 (pr0 M) (pr1 M) (pr2 M) (n))) [0, 1, 2, 3] rfl
  have hKc := hK.sub (tys' := tC k1 k2 k3) [0, 1, 2] rfl
  refine pb_call (W.runV (As := [.int (xs (i + 1))]) (rest := []) ⟨hx, hb, hml, hown, hts⟩ (cC_area l dC dI h0 h1 h2 h3 k1 k2 k3 (pr0 M) (pr1 M) (pr2 M) (n) hn (xs (i + 1))) (cwV 1 hts gL_law_X0_area rfl rfl rfl (by decide +kernel) ⟨Nat.le_of_ble_eq_true rfl, Nat.le_of_ble_eq_true rfl⟩) (preC_V hPc hKc _) rfl rfl hl.1 rfl (lv_room (Nat.le_of_ble_eq_true rfl)) dL_law_180 ⟨(show 6 ≤ 600000 by decide), (show 9241 ≤ 7302250 by decide)⟩) ?_
  refine lv_aload_n hx hb dL_law_183 rfl (lv_at hl 3 rfl) ?_
  refine lv_aload_n hx hb dL_law_184 rfl (lv_at hl 1 rfl) ?_
  refine lv_iload_n hx hb dL_law_185 rfl (lv_at hl 0 rfl) ?_
  refine lv_iconst (v := nI 1) hx hb dL_law_186 (by decide +kernel) ?_
  refine lv_iadd hx hb dL_law_187 ?_
  refine pb_eqi (nI_add _ _) ?_
  refine pb_sld (j := i + 1) hx hb hX hbl hbA hS (by omega) (by omega) dL_law_188 ?_
  have hPc := hP.sub (ws' := (wR g0 g1 r1 (M) (n))) [4, 5] rfl
  have hDc := hD.sub (ws' := (wR g0 g1 r1 (M) (n))) [4, 5] (by decide) rfl
  have hKc := hK.sub (tys' := tR r1) [3] rfl
  have hFc := va_free (wc := (wR g0 g1 r1 (M) (n))) hD hS hA [4, 5] rfl
  refine va_calli (va_runV (As := [.int (xs (i + 1))]) (rest := [.int (pb_area (pr0 M) (pr1 M) n (xs (i + 1)))]) ⟨hx, hb, hml, hown, hts⟩ (cR_area l dC dI g0 g1 r1 (M) (n) H.size hn (xs (i + 1))) (cwV 1 hts gL_law_X1_area rfl rfl rfl (by decide +kernel) ⟨Nat.le_of_ble_eq_true rfl, Nat.le_of_ble_eq_true rfl⟩) ⟨fun a U g mk q => by obtain ⟨q0, q1, qP, qK, qD⟩ := q; exact ⟨q0, q1, qP, va_K.moved (u := U) (U := U.calling g mk a) (Vm.Alike.refl U.vm) qK, qD⟩, va_recv hKc hPc (ci := 1) (q0 := 0) rfl rfl, fun U hU hW => ⟨rfl, by rw [hU], by rw [hU]; exact hPc, va_K.moved hW.alike hKc, hDc.weaken (fun _ _ _ _ => trivial)⟩⟩ rfl rfl hl.1 rfl (lv_room (Nat.le_of_ble_eq_true rfl)) dL_law_189 ⟨(show 6 ≤ 600000 by decide), (show 9241 ≤ 7302250 by decide)⟩) hS (fun q _ h => hFc q h) hFc (fun rr u t H1 locs ht hvm hw hB hz1 hk1 hS => ?_)
  obtain ⟨hP1, hD1⟩ := hB
  rw [ht] at hP1
  obtain ⟨hP, hD⟩ := va_join (wr := (wC h0 h1 h2 h3 k1 k2 k3 (pr0 M) (pr1 M) (pr2 M) (n))) (w1 := (wR g0 g1 r1 (M) (n))) hP hD [4, 5] [0, 1, 2, 3] rfl rfl (by decide) (by decide) hk1 hFc hP1 hD1
  have hP := hP.sub (ws' := [(h0, .inr (0, [.ref h1, .ref h2, .ref h3, .int (nI (n))])), (h1, .inl (k1, 1539, .inl (pr0 M))), (h2, .inl (k2, 1539, .inl (pr1 M))), (h3, .inl (k3, 1539, .inl (pr2 M))), (g0, .inr (1, [.int (nI 0), .int (nI (n)), .ref g1])), (g1, .inl (r1, 4617, .inl (M)))]) [0, 1, 2, 3, 4, 5] rfl
  have hD := hD.sub (ws' := [(h0, .inr (0, [.ref h1, .ref h2, .ref h3, .int (nI (n))])), (h1, .inl (k1, 1539, .inl (pr0 M))), (h2, .inl (k2, 1539, .inl (pr1 M))), (h3, .inl (k3, 1539, .inl (pr2 M))), (g0, .inr (1, [.int (nI 0), .int (nI (n)), .ref g1])), (g1, .inl (r1, 4617, .inl (M)))]) [0, 1, 2, 3, 4, 5] (by decide) rfl
  generalize H1 = H at hP hS ⊢
  try dsimp only at hw
  subst hw
  clear hPc hDc hKc hFc hP1 hD1 hk1 ht
  refine lv_icmp_eq (tgt := 349) hx hb dL_law_192 (by decide) (fun q1 => ?_) (fun q1 => ?_)
  · -- the same
    exact nx M n hI H _ hP hD hS ls hl
  · exact absurd rfl q1
set_option maxHeartbeats 4000000 in
set_option maxRecDepth 100000 in
theorem law_c5 {p : Program} {l : Launch} {e : Env} {s : State} {m : MethodId} {below : List Frame} {meth : Method} {c : Code} {dC : Nat → ClassId} {dI : Nat → Nat → Nat} {b L : Nat} {xs : Nat → Int32} (hL : L ≤ 2560) (C0 : lw_At p s m meth c b L xs) {h0 h1 h2 h3 : Nat} {k1 k2 k3 : ClassId} {g0 g1 : Nat} {r1 : ClassId} {i : Nat} (hi : i + 5 ≤ L) (nx : pb_NX p l e s m below meth c dC dI b i h0 h1 h2 h3 k1 k2 k3 g0 g1 r1) (hK : va_K (dC, dI) vwCl (tL k1 k2 k3 r1) s) {M : Nat → Int32} {n : Nat} (hI : pb_LI M n) {H : Heap} {locs : List Loc} (hP : va_P (dC, dI) vwCl (wL h0 h1 h2 h3 k1 k2 k3 g0 g1 r1 M n) H) (hD : va_D (fun q : Nat => s.heap.size ≤ q) (wL h0 h1 h2 h3 k1 k2 k3 g0 g1 r1 M n)) (hS : va_S (fun q : Nat => s.heap.size ≤ q) s.heap H locs) {ls : Array Slot} (hl : lv_has ls 4 [(3, .int (nI (i))), (0, .ref b), (1, .ref h0), (2, .ref g0)]) : W p l e room_1 s m #[Value.ref b] below meth c H locs 6 9241 (lw_Z below #[Value.ref b] s) (F0 m 197 ls []) := by
  obtain ⟨hx, hb, hr, hml, hown, hts, hX, hbl, hlocks, hgv⟩ := C0
  have hts := fun w h => hts w (wsL_law_in w h)
  have hA : ∀ q : Nat, s.heap.size ≤ q → (fun q : Nat => s.heap.size ≤ q) q := fun _ h => h
  have hbA : ¬ (fun q : Nat => s.heap.size ≤ q) b := Nat.not_le.mpr hbl
  have hn := hI.1
  refine lv_aload_n hx hb dL_law_197 rfl (lv_at hl 2 rfl) ?_
  refine lv_aload_n hx hb dL_law_198 rfl (lv_at hl 1 rfl) ?_
  refine lv_iload_n hx hb dL_law_199 rfl (lv_at hl 0 rfl) ?_
  refine lv_iconst (v := nI 1) hx hb dL_law_200 (by decide +kernel) ?_
  refine lv_iadd hx hb dL_law_201 ?_
  refine pb_eqi (nI_add _ _) ?_
  refine pb_sld (j := i + 1) hx hb hX hbl hbA hS (by omega) (by omega) dL_law_202 ?_
  refine lv_aload_n hx hb dL_law_203 rfl (lv_at hl 1 rfl) ?_
  refine lv_iload_n hx hb dL_law_204 rfl (lv_at hl 0 rfl) ?_
  refine lv_iconst (v := nI 2) hx hb dL_law_205 (by decide +kernel) ?_
  refine lv_iadd hx hb dL_law_206 ?_
  refine pb_eqi (nI_add _ _) ?_
  refine pb_sld (j := i + 2) hx hb hX hbl hbA hS (by omega) (by omega) dL_law_207 ?_
  refine lv_aload_n hx hb dL_law_208 rfl (lv_at hl 1 rfl) ?_
  refine lv_iload_n hx hb dL_law_209 rfl (lv_at hl 0 rfl) ?_
  refine lv_iconst (v := nI 3) hx hb dL_law_210 (by decide +kernel) ?_
  refine lv_iadd hx hb dL_law_211 ?_
  refine pb_eqi (nI_add _ _) ?_
  refine pb_sld (j := i + 3) hx hb hX hbl hbA hS (by omega) (by omega) dL_law_212 ?_
  have hPc := hP.sub (ws' := (wC h0 h1 h2 h3 k1 k2 k3 (pr0 M) (pr1 M) (pr2 M) (n))) [0, 1, 2, 3] rfl
  have hKc := hK.sub (tys' := tC k1 k2 k3) [0, 1, 2] rfl
  refine pb_call (W.runV (As := [.int (xs (i + 1)), .int (xs (i + 2)), .int (xs (i + 3))]) (rest := []) ⟨hx, hb, hml, hown, hts⟩ (cC_near l dC dI h0 h1 h2 h3 k1 k2 k3 (pr0 M) (pr1 M) (pr2 M) (n) hn (xs (i + 1)) (xs (i + 2)) (xs (i + 3))) (cwV 3 hts gL_law_X0_near rfl rfl rfl (by decide +kernel) ⟨Nat.le_of_ble_eq_true rfl, Nat.le_of_ble_eq_true rfl⟩) (preC_V hPc hKc _) rfl rfl hl.1 rfl (lv_room (Nat.le_of_ble_eq_true rfl)) dL_law_213 ⟨(show 6 ≤ 600000 by decide), (show 9241 ≤ 7302250 by decide)⟩) ?_
  refine lv_aload_n hx hb dL_law_216 rfl (lv_at hl 3 rfl) ?_
  refine lv_aload_n hx hb dL_law_217 rfl (lv_at hl 1 rfl) ?_
  refine lv_iload_n hx hb dL_law_218 rfl (lv_at hl 0 rfl) ?_
  refine lv_iconst (v := nI 1) hx hb dL_law_219 (by decide +kernel) ?_
  refine lv_iadd hx hb dL_law_220 ?_
  refine pb_eqi (nI_add _ _) ?_
  refine pb_sld (j := i + 1) hx hb hX hbl hbA hS (by omega) (by omega) dL_law_221 ?_
  refine lv_aload_n hx hb dL_law_222 rfl (lv_at hl 1 rfl) ?_
  refine lv_iload_n hx hb dL_law_223 rfl (lv_at hl 0 rfl) ?_
  refine lv_iconst (v := nI 2) hx hb dL_law_224 (by decide +kernel) ?_
  refine lv_iadd hx hb dL_law_225 ?_
  refine pb_eqi (nI_add _ _) ?_
  refine pb_sld (j := i + 2) hx hb hX hbl hbA hS (by omega) (by omega) dL_law_226 ?_
  refine lv_aload_n hx hb dL_law_227 rfl (lv_at hl 1 rfl) ?_
  refine lv_iload_n hx hb dL_law_228 rfl (lv_at hl 0 rfl) ?_
  refine lv_iconst (v := nI 3) hx hb dL_law_229 (by decide +kernel) ?_
  refine lv_iadd hx hb dL_law_230 ?_
  refine pb_eqi (nI_add _ _) ?_
  refine pb_sld (j := i + 3) hx hb hX hbl hbA hS (by omega) (by omega) dL_law_231 ?_
  have hPc := hP.sub (ws' := (wR g0 g1 r1 (M) (n))) [4, 5] rfl
  have hDc := hD.sub (ws' := (wR g0 g1 r1 (M) (n))) [4, 5] (by decide) rfl
  have hKc := hK.sub (tys' := tR r1) [3] rfl
  have hFc := va_free (wc := (wR g0 g1 r1 (M) (n))) hD hS hA [4, 5] rfl
  refine va_calli (va_runV (As := [.int (xs (i + 1)), .int (xs (i + 2)), .int (xs (i + 3))]) (rest := [.int (pb_near (pr0 M) (pr1 M) (pr2 M) n (xs (i + 1)) (xs (i + 2)) (xs (i + 3)))]) ⟨hx, hb, hml, hown, hts⟩ (cR_near l dC dI g0 g1 r1 (M) (n) H.size hn (pb_LI_I1 hI) (xs (i + 1)) (xs (i + 2)) (xs (i + 3))) (cwV 3 hts gL_law_X1_near rfl rfl rfl (by decide +kernel) ⟨Nat.le_of_ble_eq_true rfl, Nat.le_of_ble_eq_true rfl⟩) ⟨fun a U g mk q => by obtain ⟨q0, q1, qP, qK, qD⟩ := q; exact ⟨q0, q1, qP, va_K.moved (u := U) (U := U.calling g mk a) (Vm.Alike.refl U.vm) qK, qD⟩, va_recv hKc hPc (ci := 1) (q0 := 0) rfl rfl, fun U hU hW => ⟨rfl, by rw [hU], by rw [hU]; exact hPc, va_K.moved hW.alike hKc, hDc.weaken (fun _ _ _ _ => trivial)⟩⟩ rfl rfl hl.1 rfl (lv_room (Nat.le_of_ble_eq_true rfl)) dL_law_232 ⟨(show 6 ≤ 600000 by decide), (show 9241 ≤ 7302250 by decide)⟩) hS (fun q _ h => hFc q h) hFc (fun rr u t H1 locs ht hvm hw hB hz1 hk1 hS => ?_)
  obtain ⟨hP1, hD1⟩ := hB
  rw [ht] at hP1
  obtain ⟨hP, hD⟩ := va_join (wr := (wC h0 h1 h2 h3 k1 k2 k3 (pr0 M) (pr1 M) (pr2 M) (n))) (w1 := (wR g0 g1 r1 (M) (n))) hP hD [4, 5] [0, 1, 2, 3] rfl rfl (by decide) (by decide) hk1 hFc hP1 hD1
  have hP := hP.sub (ws' := [(h0, .inr (0, [.ref h1, .ref h2, .ref h3, .int (nI (n))])), (h1, .inl (k1, 1539, .inl (pr0 M))), (h2, .inl (k2, 1539, .inl (pr1 M))), (h3, .inl (k3, 1539, .inl (pr2 M))), (g0, .inr (1, [.int (nI 0), .int (nI (n)), .ref g1])), (g1, .inl (r1, 4617, .inl (M)))]) [0, 1, 2, 3, 4, 5] rfl
  have hD := hD.sub (ws' := [(h0, .inr (0, [.ref h1, .ref h2, .ref h3, .int (nI (n))])), (h1, .inl (k1, 1539, .inl (pr0 M))), (h2, .inl (k2, 1539, .inl (pr1 M))), (h3, .inl (k3, 1539, .inl (pr2 M))), (g0, .inr (1, [.int (nI 0), .int (nI (n)), .ref g1])), (g1, .inl (r1, 4617, .inl (M)))]) [0, 1, 2, 3, 4, 5] (by decide) rfl
  generalize H1 = H at hP hS ⊢
  try dsimp only at hw
  subst hw
  clear hPc hDc hKc hFc hP1 hD1 hk1 ht
  refine lv_icmp_eq (tgt := 349) hx hb dL_law_235 (by decide) (fun q1 => ?_) (fun q1 => ?_)
  · -- the same
    exact nx M n hI H _ hP hD hS ls hl
  · exact absurd rfl q1
set_option maxHeartbeats 4000000 in
set_option maxRecDepth 100000 in
theorem law_c6 {p : Program} {l : Launch} {e : Env} {s : State} {m : MethodId} {below : List Frame} {meth : Method} {c : Code} {dC : Nat → ClassId} {dI : Nat → Nat → Nat} {b L : Nat} {xs : Nat → Int32} (hL : L ≤ 2560) (C0 : lw_At p s m meth c b L xs) {h0 h1 h2 h3 : Nat} {k1 k2 k3 : ClassId} {g0 g1 : Nat} {r1 : ClassId} {i : Nat} (hi : i + 5 ≤ L) (nx : pb_NX p l e s m below meth c dC dI b i h0 h1 h2 h3 k1 k2 k3 g0 g1 r1) (hK : va_K (dC, dI) vwCl (tL k1 k2 k3 r1) s) {M : Nat → Int32} {n : Nat} (hI : pb_LI M n) {H : Heap} {locs : List Loc} (hP : va_P (dC, dI) vwCl (wL h0 h1 h2 h3 k1 k2 k3 g0 g1 r1 M n) H) (hD : va_D (fun q : Nat => s.heap.size ≤ q) (wL h0 h1 h2 h3 k1 k2 k3 g0 g1 r1 M n)) (hS : va_S (fun q : Nat => s.heap.size ≤ q) s.heap H locs) {ls : Array Slot} (hl : lv_has ls 4 [(3, .int (nI (i))), (0, .ref b), (1, .ref h0), (2, .ref g0)]) : W p l e room_1 s m #[Value.ref b] below meth c H locs 6 9241 (lw_Z below #[Value.ref b] s) (F0 m 240 ls []) := by
  obtain ⟨hx, hb, hr, hml, hown, hts, hX, hbl, hlocks, hgv⟩ := C0
  have hts := fun w h => hts w (wsL_law_in w h)
  have hA : ∀ q : Nat, s.heap.size ≤ q → (fun q : Nat => s.heap.size ≤ q) q := fun _ h => h
  have hbA : ¬ (fun q : Nat => s.heap.size ≤ q) b := Nat.not_le.mpr hbl
  have hn := hI.1
  refine lv_aload_n hx hb dL_law_240 rfl (lv_at hl 2 rfl) ?_
  refine lv_aload_n hx hb dL_law_241 rfl (lv_at hl 1 rfl) ?_
  refine lv_iload_n hx hb dL_law_242 rfl (lv_at hl 0 rfl) ?_
  refine lv_iconst (v := nI 1) hx hb dL_law_243 (by decide +kernel) ?_
  refine lv_iadd hx hb dL_law_244 ?_
  refine pb_eqi (nI_add _ _) ?_
  refine pb_sld (j := i + 1) hx hb hX hbl hbA hS (by omega) (by omega) dL_law_245 ?_
  refine lv_aload_n hx hb dL_law_246 rfl (lv_at hl 1 rfl) ?_
  refine lv_iload_n hx hb dL_law_247 rfl (lv_at hl 0 rfl) ?_
  refine lv_iconst (v := nI 2) hx hb dL_law_248 (by decide +kernel) ?_
  refine lv_iadd hx hb dL_law_249 ?_
  refine pb_eqi (nI_add _ _) ?_
  refine pb_sld (j := i + 2) hx hb hX hbl hbA hS (by omega) (by omega) dL_law_250 ?_
  have hPc := hP.sub (ws' := (wC h0 h1 h2 h3 k1 k2 k3 (pr0 M) (pr1 M) (pr2 M) (n))) [0, 1, 2, 3] rfl
  have hKc := hK.sub (tys' := tC k1 k2 k3) [0, 1, 2] rfl
  refine pb_call (W.runV (As := [.int (xs (i + 1)), .int (xs (i + 2))]) (rest := []) ⟨hx, hb, hml, hown, hts⟩ (cC_nearest l dC dI h0 h1 h2 h3 k1 k2 k3 (pr0 M) (pr1 M) (pr2 M) (n) hn (xs (i + 1)) (xs (i + 2))) (cwV 2 hts gL_law_X0_nearest rfl rfl rfl (by decide +kernel) ⟨Nat.le_of_ble_eq_true rfl, Nat.le_of_ble_eq_true rfl⟩) (preC_V hPc hKc _) rfl rfl hl.1 rfl (lv_room (Nat.le_of_ble_eq_true rfl)) dL_law_251 ⟨(show 6 ≤ 600000 by decide), (show 9241 ≤ 7302250 by decide)⟩) ?_
  refine lv_aload_n hx hb dL_law_254 rfl (lv_at hl 3 rfl) ?_
  refine lv_aload_n hx hb dL_law_255 rfl (lv_at hl 1 rfl) ?_
  refine lv_iload_n hx hb dL_law_256 rfl (lv_at hl 0 rfl) ?_
  refine lv_iconst (v := nI 1) hx hb dL_law_257 (by decide +kernel) ?_
  refine lv_iadd hx hb dL_law_258 ?_
  refine pb_eqi (nI_add _ _) ?_
  refine pb_sld (j := i + 1) hx hb hX hbl hbA hS (by omega) (by omega) dL_law_259 ?_
  refine lv_aload_n hx hb dL_law_260 rfl (lv_at hl 1 rfl) ?_
  refine lv_iload_n hx hb dL_law_261 rfl (lv_at hl 0 rfl) ?_
  refine lv_iconst (v := nI 2) hx hb dL_law_262 (by decide +kernel) ?_
  refine lv_iadd hx hb dL_law_263 ?_
  refine pb_eqi (nI_add _ _) ?_
  refine pb_sld (j := i + 2) hx hb hX hbl hbA hS (by omega) (by omega) dL_law_264 ?_
  have hPc := hP.sub (ws' := (wR g0 g1 r1 (M) (n))) [4, 5] rfl
  have hDc := hD.sub (ws' := (wR g0 g1 r1 (M) (n))) [4, 5] (by decide) rfl
  have hKc := hK.sub (tys' := tR r1) [3] rfl
  have hFc := va_free (wc := (wR g0 g1 r1 (M) (n))) hD hS hA [4, 5] rfl
  refine va_calli (va_runV (As := [.int (xs (i + 1)), .int (xs (i + 2))]) (rest := [.int ((pb_ns (pr0 M) (pr1 M) (pr2 M) (xs (i + 1)) (xs (i + 2)) n).1)]) ⟨hx, hb, hml, hown, hts⟩ (cR_nearest l dC dI g0 g1 r1 (M) (n) H.size hn (pb_LI_I1 hI) (xs (i + 1)) (xs (i + 2))) (cwV 2 hts gL_law_X1_nearest rfl rfl rfl (by decide +kernel) ⟨Nat.le_of_ble_eq_true rfl, Nat.le_of_ble_eq_true rfl⟩) ⟨fun a U g mk q => by obtain ⟨q0, q1, qP, qK, qD⟩ := q; exact ⟨q0, q1, qP, va_K.moved (u := U) (U := U.calling g mk a) (Vm.Alike.refl U.vm) qK, qD⟩, va_recv hKc hPc (ci := 1) (q0 := 0) rfl rfl, fun U hU hW => ⟨rfl, by rw [hU], by rw [hU]; exact hPc, va_K.moved hW.alike hKc, hDc.weaken (fun _ _ _ _ => trivial)⟩⟩ rfl rfl hl.1 rfl (lv_room (Nat.le_of_ble_eq_true rfl)) dL_law_265 ⟨(show 6 ≤ 600000 by decide), (show 9241 ≤ 7302250 by decide)⟩) hS (fun q _ h => hFc q h) hFc (fun rr u t H1 locs ht hvm hw hB hz1 hk1 hS => ?_)
  obtain ⟨hP1, hD1⟩ := hB
  rw [ht] at hP1
  obtain ⟨hP, hD⟩ := va_join (wr := (wC h0 h1 h2 h3 k1 k2 k3 (pr0 M) (pr1 M) (pr2 M) (n))) (w1 := (wR g0 g1 r1 (M) (n))) hP hD [4, 5] [0, 1, 2, 3] rfl rfl (by decide) (by decide) hk1 hFc hP1 hD1
  have hP := hP.sub (ws' := [(h0, .inr (0, [.ref h1, .ref h2, .ref h3, .int (nI (n))])), (h1, .inl (k1, 1539, .inl (pr0 M))), (h2, .inl (k2, 1539, .inl (pr1 M))), (h3, .inl (k3, 1539, .inl (pr2 M))), (g0, .inr (1, [.int (nI 0), .int (nI (n)), .ref g1])), (g1, .inl (r1, 4617, .inl (M)))]) [0, 1, 2, 3, 4, 5] rfl
  have hD := hD.sub (ws' := [(h0, .inr (0, [.ref h1, .ref h2, .ref h3, .int (nI (n))])), (h1, .inl (k1, 1539, .inl (pr0 M))), (h2, .inl (k2, 1539, .inl (pr1 M))), (h3, .inl (k3, 1539, .inl (pr2 M))), (g0, .inr (1, [.int (nI 0), .int (nI (n)), .ref g1])), (g1, .inl (r1, 4617, .inl (M)))]) [0, 1, 2, 3, 4, 5] (by decide) rfl
  generalize H1 = H at hP hS ⊢
  try dsimp only at hw
  subst hw
  clear hPc hDc hKc hFc hP1 hD1 hk1 ht
  refine lv_icmp_eq (tgt := 349) hx hb dL_law_268 (by decide) (fun q1 => ?_) (fun q1 => ?_)
  · -- the same
    exact nx M n hI H _ hP hD hS ls hl
  · exact absurd rfl q1
set_option maxHeartbeats 4000000 in
set_option maxRecDepth 100000 in
theorem law_c7 {p : Program} {l : Launch} {e : Env} {s : State} {m : MethodId} {below : List Frame} {meth : Method} {c : Code} {dC : Nat → ClassId} {dI : Nat → Nat → Nat} {b L : Nat} {xs : Nat → Int32} (hL : L ≤ 2560) (C0 : lw_At p s m meth c b L xs) {h0 h1 h2 h3 : Nat} {k1 k2 k3 : ClassId} {g0 g1 : Nat} {r1 : ClassId} {i : Nat} (hi : i + 5 ≤ L) (nx : pb_NX p l e s m below meth c dC dI b i h0 h1 h2 h3 k1 k2 k3 g0 g1 r1) (hK : va_K (dC, dI) vwCl (tL k1 k2 k3 r1) s) {M : Nat → Int32} {n : Nat} (hI : pb_LI M n) {H : Heap} {locs : List Loc} (hP : va_P (dC, dI) vwCl (wL h0 h1 h2 h3 k1 k2 k3 g0 g1 r1 M n) H) (hD : va_D (fun q : Nat => s.heap.size ≤ q) (wL h0 h1 h2 h3 k1 k2 k3 g0 g1 r1 M n)) (hS : va_S (fun q : Nat => s.heap.size ≤ q) s.heap H locs) {ls : Array Slot} (hl : lv_has ls 4 [(3, .int (nI (i))), (0, .ref b), (1, .ref h0), (2, .ref g0)]) : W p l e room_1 s m #[Value.ref b] below meth c H locs 6 9241 (lw_Z below #[Value.ref b] s) (F0 m 273 ls []) := by
  obtain ⟨hx, hb, hr, hml, hown, hts, hX, hbl, hlocks, hgv⟩ := C0
  have hts := fun w h => hts w (wsL_law_in w h)
  have hA : ∀ q : Nat, s.heap.size ≤ q → (fun q : Nat => s.heap.size ≤ q) q := fun _ h => h
  have hbA : ¬ (fun q : Nat => s.heap.size ≤ q) b := Nat.not_le.mpr hbl
  have hn := hI.1
  refine lv_aload_n hx hb dL_law_273 rfl (lv_at hl 2 rfl) ?_
  refine lv_aload_n hx hb dL_law_274 rfl (lv_at hl 1 rfl) ?_
  refine lv_iload_n hx hb dL_law_275 rfl (lv_at hl 0 rfl) ?_
  refine lv_iconst (v := nI 1) hx hb dL_law_276 (by decide +kernel) ?_
  refine lv_iadd hx hb dL_law_277 ?_
  refine pb_eqi (nI_add _ _) ?_
  refine pb_sld (j := i + 1) hx hb hX hbl hbA hS (by omega) (by omega) dL_law_278 ?_
  refine lv_aload_n hx hb dL_law_279 rfl (lv_at hl 1 rfl) ?_
  refine lv_iload_n hx hb dL_law_280 rfl (lv_at hl 0 rfl) ?_
  refine lv_iconst (v := nI 2) hx hb dL_law_281 (by decide +kernel) ?_
  refine lv_iadd hx hb dL_law_282 ?_
  refine pb_eqi (nI_add _ _) ?_
  refine pb_sld (j := i + 2) hx hb hX hbl hbA hS (by omega) (by omega) dL_law_283 ?_
  have hPc := hP.sub (ws' := (wC h0 h1 h2 h3 k1 k2 k3 (pr0 M) (pr1 M) (pr2 M) (n))) [0, 1, 2, 3] rfl
  have hKc := hK.sub (tys' := tC k1 k2 k3) [0, 1, 2] rfl
  refine pb_call (W.runV (As := [.int (xs (i + 1)), .int (xs (i + 2))]) (rest := []) ⟨hx, hb, hml, hown, hts⟩ (cC_covering l dC dI h0 h1 h2 h3 k1 k2 k3 (pr0 M) (pr1 M) (pr2 M) (n) hn (xs (i + 1)) (xs (i + 2))) (cwV 2 hts gL_law_X0_covering rfl rfl rfl (by decide +kernel) ⟨Nat.le_of_ble_eq_true rfl, Nat.le_of_ble_eq_true rfl⟩) (preC_V hPc hKc _) rfl rfl hl.1 rfl (lv_room (Nat.le_of_ble_eq_true rfl)) dL_law_284 ⟨(show 6 ≤ 600000 by decide), (show 9241 ≤ 7302250 by decide)⟩) ?_
  refine lv_aload_n hx hb dL_law_287 rfl (lv_at hl 3 rfl) ?_
  refine lv_aload_n hx hb dL_law_288 rfl (lv_at hl 1 rfl) ?_
  refine lv_iload_n hx hb dL_law_289 rfl (lv_at hl 0 rfl) ?_
  refine lv_iconst (v := nI 1) hx hb dL_law_290 (by decide +kernel) ?_
  refine lv_iadd hx hb dL_law_291 ?_
  refine pb_eqi (nI_add _ _) ?_
  refine pb_sld (j := i + 1) hx hb hX hbl hbA hS (by omega) (by omega) dL_law_292 ?_
  refine lv_aload_n hx hb dL_law_293 rfl (lv_at hl 1 rfl) ?_
  refine lv_iload_n hx hb dL_law_294 rfl (lv_at hl 0 rfl) ?_
  refine lv_iconst (v := nI 2) hx hb dL_law_295 (by decide +kernel) ?_
  refine lv_iadd hx hb dL_law_296 ?_
  refine pb_eqi (nI_add _ _) ?_
  refine pb_sld (j := i + 2) hx hb hX hbl hbA hS (by omega) (by omega) dL_law_297 ?_
  have hPc := hP.sub (ws' := (wR g0 g1 r1 (M) (n))) [4, 5] rfl
  have hDc := hD.sub (ws' := (wR g0 g1 r1 (M) (n))) [4, 5] (by decide) rfl
  have hKc := hK.sub (tys' := tR r1) [3] rfl
  have hFc := va_free (wc := (wR g0 g1 r1 (M) (n))) hD hS hA [4, 5] rfl
  refine va_calli (va_runV (As := [.int (xs (i + 1)), .int (xs (i + 2))]) (rest := [.int (pb_cv (pr0 M) (pr1 M) (pb_mid (xs (i + 1))) (pb_mid (xs (i + 2))) n)]) ⟨hx, hb, hml, hown, hts⟩ (cR_covering l dC dI g0 g1 r1 (M) (n) H.size hn (pb_LI_I1 hI) (xs (i + 1)) (xs (i + 2))) (cwV 2 hts gL_law_X1_covering rfl rfl rfl (by decide +kernel) ⟨Nat.le_of_ble_eq_true rfl, Nat.le_of_ble_eq_true rfl⟩) ⟨fun a U g mk q => by obtain ⟨q0, q1, qP, qK, qD⟩ := q; exact ⟨q0, q1, qP, va_K.moved (u := U) (U := U.calling g mk a) (Vm.Alike.refl U.vm) qK, qD⟩, va_recv hKc hPc (ci := 1) (q0 := 0) rfl rfl, fun U hU hW => ⟨rfl, by rw [hU], by rw [hU]; exact hPc, va_K.moved hW.alike hKc, hDc.weaken (fun _ _ _ _ => trivial)⟩⟩ rfl rfl hl.1 rfl (lv_room (Nat.le_of_ble_eq_true rfl)) dL_law_298 ⟨(show 6 ≤ 600000 by decide), (show 9241 ≤ 7302250 by decide)⟩) hS (fun q _ h => hFc q h) hFc (fun rr u t H1 locs ht hvm hw hB hz1 hk1 hS => ?_)
  obtain ⟨hP1, hD1⟩ := hB
  rw [ht] at hP1
  obtain ⟨hP, hD⟩ := va_join (wr := (wC h0 h1 h2 h3 k1 k2 k3 (pr0 M) (pr1 M) (pr2 M) (n))) (w1 := (wR g0 g1 r1 (M) (n))) hP hD [4, 5] [0, 1, 2, 3] rfl rfl (by decide) (by decide) hk1 hFc hP1 hD1
  have hP := hP.sub (ws' := [(h0, .inr (0, [.ref h1, .ref h2, .ref h3, .int (nI (n))])), (h1, .inl (k1, 1539, .inl (pr0 M))), (h2, .inl (k2, 1539, .inl (pr1 M))), (h3, .inl (k3, 1539, .inl (pr2 M))), (g0, .inr (1, [.int (nI 0), .int (nI (n)), .ref g1])), (g1, .inl (r1, 4617, .inl (M)))]) [0, 1, 2, 3, 4, 5] rfl
  have hD := hD.sub (ws' := [(h0, .inr (0, [.ref h1, .ref h2, .ref h3, .int (nI (n))])), (h1, .inl (k1, 1539, .inl (pr0 M))), (h2, .inl (k2, 1539, .inl (pr1 M))), (h3, .inl (k3, 1539, .inl (pr2 M))), (g0, .inr (1, [.int (nI 0), .int (nI (n)), .ref g1])), (g1, .inl (r1, 4617, .inl (M)))]) [0, 1, 2, 3, 4, 5] (by decide) rfl
  generalize H1 = H at hP hS ⊢
  try dsimp only at hw
  subst hw
  clear hPc hDc hKc hFc hP1 hD1 hk1 ht
  refine lv_icmp_eq (tgt := 349) hx hb dL_law_301 (by decide) (fun q1 => ?_) (fun q1 => ?_)
  · -- the same
    exact nx M n hI H _ hP hD hS ls hl
  · exact absurd rfl q1
set_option maxHeartbeats 4000000 in
set_option maxRecDepth 100000 in
theorem law_c8 {p : Program} {l : Launch} {e : Env} {s : State} {m : MethodId} {below : List Frame} {meth : Method} {c : Code} {dC : Nat → ClassId} {dI : Nat → Nat → Nat} {b L : Nat} {xs : Nat → Int32} (hL : L ≤ 2560) (C0 : lw_At p s m meth c b L xs) {h0 h1 h2 h3 : Nat} {k1 k2 k3 : ClassId} {g0 g1 : Nat} {r1 : ClassId} {i : Nat} (hi : i + 5 ≤ L) (nx : pb_NX p l e s m below meth c dC dI b i h0 h1 h2 h3 k1 k2 k3 g0 g1 r1) (hK : va_K (dC, dI) vwCl (tL k1 k2 k3 r1) s) {M : Nat → Int32} {n : Nat} (hI : pb_LI M n) {H : Heap} {locs : List Loc} (hP : va_P (dC, dI) vwCl (wL h0 h1 h2 h3 k1 k2 k3 g0 g1 r1 M n) H) (hD : va_D (fun q : Nat => s.heap.size ≤ q) (wL h0 h1 h2 h3 k1 k2 k3 g0 g1 r1 M n)) (hS : va_S (fun q : Nat => s.heap.size ≤ q) s.heap H locs) {ls : Array Slot} (hl : lv_has ls 4 [(3, .int (nI (i))), (0, .ref b), (1, .ref h0), (2, .ref g0)]) : W p l e room_1 s m #[Value.ref b] below meth c H locs 6 9241 (lw_Z below #[Value.ref b] s) (F0 m 306 ls []) := by
  obtain ⟨hx, hb, hr, hml, hown, hts, hX, hbl, hlocks, hgv⟩ := C0
  have hts := fun w h => hts w (wsL_law_in w h)
  have hA : ∀ q : Nat, s.heap.size ≤ q → (fun q : Nat => s.heap.size ≤ q) q := fun _ h => h
  have hbA : ¬ (fun q : Nat => s.heap.size ≤ q) b := Nat.not_le.mpr hbl
  have hn := hI.1
  refine lv_aload_n hx hb dL_law_306 rfl (lv_at hl 2 rfl) ?_
  refine lv_aload_n hx hb dL_law_307 rfl (lv_at hl 1 rfl) ?_
  refine lv_iload_n hx hb dL_law_308 rfl (lv_at hl 0 rfl) ?_
  refine lv_iconst (v := nI 1) hx hb dL_law_309 (by decide +kernel) ?_
  refine lv_iadd hx hb dL_law_310 ?_
  refine pb_eqi (nI_add _ _) ?_
  refine pb_sld (j := i + 1) hx hb hX hbl hbA hS (by omega) (by omega) dL_law_311 ?_
  refine lv_aload_n hx hb dL_law_312 rfl (lv_at hl 1 rfl) ?_
  refine lv_iload_n hx hb dL_law_313 rfl (lv_at hl 0 rfl) ?_
  refine lv_iconst (v := nI 2) hx hb dL_law_314 (by decide +kernel) ?_
  refine lv_iadd hx hb dL_law_315 ?_
  refine pb_eqi (nI_add _ _) ?_
  refine pb_sld (j := i + 2) hx hb hX hbl hbA hS (by omega) (by omega) dL_law_316 ?_
  refine lv_aload_n hx hb dL_law_317 rfl (lv_at hl 1 rfl) ?_
  refine lv_iload_n hx hb dL_law_318 rfl (lv_at hl 0 rfl) ?_
  refine lv_iconst (v := nI 3) hx hb dL_law_319 (by decide +kernel) ?_
  refine lv_iadd hx hb dL_law_320 ?_
  refine pb_eqi (nI_add _ _) ?_
  refine pb_sld (j := i + 3) hx hb hX hbl hbA hS (by omega) (by omega) dL_law_321 ?_
  have hPc := hP.sub (ws' := (wC h0 h1 h2 h3 k1 k2 k3 (pr0 M) (pr1 M) (pr2 M) (n))) [0, 1, 2, 3] rfl
  have hKc := hK.sub (tys' := tC k1 k2 k3) [0, 1, 2] rfl
  refine pb_call (W.runV (As := [.int (xs (i + 1)), .int (xs (i + 2)), .int (xs (i + 3))]) (rest := []) ⟨hx, hb, hml, hown, hts⟩ (cC_next l dC dI h0 h1 h2 h3 k1 k2 k3 (pr0 M) (pr1 M) (pr2 M) (n) hn (xs (i + 1)) (xs (i + 2)) (xs (i + 3))) (cwV 3 hts gL_law_X0_next rfl rfl rfl (by decide +kernel) ⟨Nat.le_of_ble_eq_true rfl, Nat.le_of_ble_eq_true rfl⟩) (preC_V hPc hKc _) rfl rfl hl.1 rfl (lv_room (Nat.le_of_ble_eq_true rfl)) dL_law_322 ⟨(show 6 ≤ 600000 by decide), (show 9241 ≤ 7302250 by decide)⟩) ?_
  refine lv_aload_n hx hb dL_law_325 rfl (lv_at hl 3 rfl) ?_
  refine lv_aload_n hx hb dL_law_326 rfl (lv_at hl 1 rfl) ?_
  refine lv_iload_n hx hb dL_law_327 rfl (lv_at hl 0 rfl) ?_
  refine lv_iconst (v := nI 1) hx hb dL_law_328 (by decide +kernel) ?_
  refine lv_iadd hx hb dL_law_329 ?_
  refine pb_eqi (nI_add _ _) ?_
  refine pb_sld (j := i + 1) hx hb hX hbl hbA hS (by omega) (by omega) dL_law_330 ?_
  refine lv_aload_n hx hb dL_law_331 rfl (lv_at hl 1 rfl) ?_
  refine lv_iload_n hx hb dL_law_332 rfl (lv_at hl 0 rfl) ?_
  refine lv_iconst (v := nI 2) hx hb dL_law_333 (by decide +kernel) ?_
  refine lv_iadd hx hb dL_law_334 ?_
  refine pb_eqi (nI_add _ _) ?_
  refine pb_sld (j := i + 2) hx hb hX hbl hbA hS (by omega) (by omega) dL_law_335 ?_
  refine lv_aload_n hx hb dL_law_336 rfl (lv_at hl 1 rfl) ?_
  refine lv_iload_n hx hb dL_law_337 rfl (lv_at hl 0 rfl) ?_
  refine lv_iconst (v := nI 3) hx hb dL_law_338 (by decide +kernel) ?_
  refine lv_iadd hx hb dL_law_339 ?_
  refine pb_eqi (nI_add _ _) ?_
  refine pb_sld (j := i + 3) hx hb hX hbl hbA hS (by omega) (by omega) dL_law_340 ?_
  have hPc := hP.sub (ws' := (wR g0 g1 r1 (M) (n))) [4, 5] rfl
  have hDc := hD.sub (ws' := (wR g0 g1 r1 (M) (n))) [4, 5] (by decide) rfl
  have hKc := hK.sub (tys' := tR r1) [3] rfl
  have hFc := va_free (wc := (wR g0 g1 r1 (M) (n))) hD hS hA [4, 5] rfl
  refine va_calli (va_runV (As := [.int (xs (i + 1)), .int (xs (i + 2)), .int (xs (i + 3))]) (rest := [.int (pb_next (pr0 M) (pr1 M) (pb_mid (xs (i + 1))) (pb_mid (xs (i + 2))) n (xs (i + 3)))]) ⟨hx, hb, hml, hown, hts⟩ (cR_next l dC dI g0 g1 r1 (M) (n) H.size hn (pb_LI_I1 hI) (xs (i + 1)) (xs (i + 2)) (xs (i + 3))) (cwV 3 hts gL_law_X1_next rfl rfl rfl (by decide +kernel) ⟨Nat.le_of_ble_eq_true rfl, Nat.le_of_ble_eq_true rfl⟩) ⟨fun a U g mk q => by obtain ⟨q0, q1, qP, qK, qD⟩ := q; exact ⟨q0, q1, qP, va_K.moved (u := U) (U := U.calling g mk a) (Vm.Alike.refl U.vm) qK, qD⟩, va_recv hKc hPc (ci := 1) (q0 := 0) rfl rfl, fun U hU hW => ⟨rfl, by rw [hU], by rw [hU]; exact hPc, va_K.moved hW.alike hKc, hDc.weaken (fun _ _ _ _ => trivial)⟩⟩ rfl rfl hl.1 rfl (lv_room (Nat.le_of_ble_eq_true rfl)) dL_law_341 ⟨(show 6 ≤ 600000 by decide), (show 9241 ≤ 7302250 by decide)⟩) hS (fun q _ h => hFc q h) hFc (fun rr u t H1 locs ht hvm hw hB hz1 hk1 hS => ?_)
  obtain ⟨hP1, hD1⟩ := hB
  rw [ht] at hP1
  obtain ⟨hP, hD⟩ := va_join (wr := (wC h0 h1 h2 h3 k1 k2 k3 (pr0 M) (pr1 M) (pr2 M) (n))) (w1 := (wR g0 g1 r1 (M) (n))) hP hD [4, 5] [0, 1, 2, 3] rfl rfl (by decide) (by decide) hk1 hFc hP1 hD1
  have hP := hP.sub (ws' := [(h0, .inr (0, [.ref h1, .ref h2, .ref h3, .int (nI (n))])), (h1, .inl (k1, 1539, .inl (pr0 M))), (h2, .inl (k2, 1539, .inl (pr1 M))), (h3, .inl (k3, 1539, .inl (pr2 M))), (g0, .inr (1, [.int (nI 0), .int (nI (n)), .ref g1])), (g1, .inl (r1, 4617, .inl (M)))]) [0, 1, 2, 3, 4, 5] rfl
  have hD := hD.sub (ws' := [(h0, .inr (0, [.ref h1, .ref h2, .ref h3, .int (nI (n))])), (h1, .inl (k1, 1539, .inl (pr0 M))), (h2, .inl (k2, 1539, .inl (pr1 M))), (h3, .inl (k3, 1539, .inl (pr2 M))), (g0, .inr (1, [.int (nI 0), .int (nI (n)), .ref g1])), (g1, .inl (r1, 4617, .inl (M)))]) [0, 1, 2, 3, 4, 5] (by decide) rfl
  generalize H1 = H at hP hS ⊢
  try dsimp only at hw
  subst hw
  clear hPc hDc hKc hFc hP1 hD1 hk1 ht
  refine lv_icmp_eq (tgt := 349) hx hb dL_law_344 (by decide) (fun q1 => ?_) (fun q1 => ?_)
  · -- the same
    exact nx M n hI H _ hP hD hS ls hl
  · exact absurd rfl q1
