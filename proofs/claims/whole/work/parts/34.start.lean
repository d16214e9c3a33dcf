set_option maxHeartbeats 4000000 in
set_option maxRecDepth 100000 in
theorem law_loop {p : Program} {l : Launch} {e : Env} {s : State} {m : MethodId} {below : List Frame} {meth : Method} {c : Code} {dC : Nat → ClassId} {dI : Nat → Nat → Nat} {b L : Nat} {xs : Nat → Int32} (hL : L ≤ 2560) (C0 : lw_At p s m meth c b L xs) {h0 h1 h2 h3 : Nat} {k1 k2 k3 : ClassId} {g0 g1 : Nat} {r1 : ClassId} (hK : va_K (dC, dI) vwCl (tL k1 k2 k3 r1) s) : ∀ (d i : Nat), L < i + 5 + d → i ≤ 2565 → ∀ (M : Nat → Int32) (n : Nat), pb_LI M n → ∀ (H : Heap) (locs : List Loc), va_P (dC, dI) vwCl (wL h0 h1 h2 h3 k1 k2 k3 g0 g1 r1 M n) H → va_D (fun q : Nat => s.heap.size ≤ q) (wL h0 h1 h2 h3 k1 k2 k3 g0 g1 r1 M n) → va_S (fun q : Nat => s.heap.size ≤ q) s.heap H locs → ∀ ls : Array Slot, lv_has ls 4 [(3, .int (nI (i))), (0, .ref b), (1, .ref h0), (2, .ref g0)] → W p l e room_1 s m #[Value.ref b] below meth c H locs 6 9241 (lw_Z below #[Value.ref b] s) (F0 m 18 ls []) := by
  obtain ⟨hx, hb, hr, hml, hown, hts, hX, hbl, hlocks, hgv⟩ := id C0
  have hbA : ¬ (fun q : Nat => s.heap.size ≤ q) b := Nat.not_le.mpr hbl
  have fin : ∀ (H : Heap) (locs : List Loc), va_S (fun q : Nat => s.heap.size ≤ q) s.heap H locs → ∀ ls : Array Slot, W p l e room_1 s m #[Value.ref b] below meth c H locs 6 9241 (lw_Z below #[Value.ref b] s) (F0 m 355 ls []) := by
    intro H locs hS ls
    refine lv_iconst (v := 1) hx hb dL_law_355 (by decide +kernel) ?_
    refine va_forget (fun q hq => hS.2.2 q hq) ?_
    refine W.widen (k := 600000) (n := 7302250) (by decide) (by decide) ?_
    exact lw_ret hx hb hr hlocks dL_law_356
  intro d
  induction d with
  | zero =>
    intro i hd hi M n hI H locs hP hD hS ls hl
    refine lv_iload_n hx hb dL_law_18 rfl (lv_at hl 0 rfl) ?_
    refine lv_aload_n hx hb dL_law_19 rfl (lv_at hl 1 rfl) ?_
    refine va_slen hx hb hX hbl hbA hS dL_law_20 ?_
    refine pb_eqi (show Int32.ofNat L = nI L from rfl) ?_
    refine lv_iconst (v := 5) hx hb dL_law_21 (by decide +kernel) ?_
    refine lv_isub hx hb dL_law_22 ?_
    refine lv_icmp_gt (tgt := 355) hx hb dL_law_23 (by decide) (fun q1 => ?_) (fun q1 => ?_)
    · exact fin H locs hS ls
    · exact absurd ((pb_lim hi hL).mpr (by omega)) q1
  | succ d ih =>
    intro i hd hi M n hI H locs hP hD hS ls hl
    refine lv_iload_n hx hb dL_law_18 rfl (lv_at hl 0 rfl) ?_
    refine lv_aload_n hx hb dL_law_19 rfl (lv_at hl 1 rfl) ?_
    refine va_slen hx hb hX hbl hbA hS dL_law_20 ?_
    refine pb_eqi (show Int32.ofNat L = nI L from rfl) ?_
    refine lv_iconst (v := 5) hx hb dL_law_21 (by decide +kernel) ?_
    refine lv_isub hx hb dL_law_22 ?_
    refine lv_icmp_gt (tgt := 355) hx hb dL_law_23 (by decide) (fun q1 => ?_) (fun q1 => ?_)
    · exact fin H locs hS ls
    · have hi5 : i + 5 ≤ L := Nat.not_lt.mp (fun h => q1 ((pb_lim hi hL).mpr h))
      have nx : pb_NX p l e s m below meth c dC dI b i h0 h1 h2 h3 k1 k2 k3 g0 g1 r1 := by
        intro M n hI H locs hP hD hS ls hl
        refine lv_iinc (v := nI (i + 5)) (lv' := [(3, .int (nI (i + 5))), (0, .ref b), (1, .ref h0), (2, .ref g0)]) hx hb dL_law_349 hl (k := 0) rfl (by rw [show Int32.ofInt 5 = nI 5 by decide +kernel]; exact nI_add i 5) (by decide) rfl (fun ls hl => ?_)
        refine lv_goto (tgt := 18) hx hb dL_law_352 (by decide) ?_
        exact ih (i + 5) (by omega) (by omega) M n hI H locs hP hD hS ls hl
      refine lv_aload_n hx hb dL_law_26 rfl (lv_at hl 1 rfl) ?_
      refine lv_iload_n hx hb dL_law_27 rfl (lv_at hl 0 rfl) ?_
      refine pb_sld (j := i) hx hb hX hbl hbA hS (by omega) (by omega) dL_law_28 ?_
      refine lv_bipush (v := 15) hx hb dL_law_29 (by decide +kernel) ?_
      refine lv_iand hx hb dL_law_31 ?_
      obtain ⟨j, hj, ej⟩ := pk_andE (xs i) (m := 15) 4 (by decide +kernel)
      refine pb_eqi ej ?_
      have hj9 : j = 0 ∨ j = 1 ∨ j = 2 ∨ j = 3 ∨ j = 4 ∨ j = 5 ∨ j = 6 ∨ j = 7 ∨ j = 8 ∨ 9 ≤ j := by omega
      rcases hj9 with rfl | rfl | rfl | rfl | rfl | rfl | rfl | rfl | rfl | hj9
      · refine lv_tableIn (off := 52) (tgt := 84) hx hb dL_law_32 (by decide +kernel) (by decide +kernel) (by decide +kernel) (by decide) ?_
        exact law_c0 hL C0 hi5 nx hK hI hP hD hS hl
      · refine lv_tableIn (off := 105) (tgt := 137) hx hb dL_law_32 (by decide +kernel) (by decide +kernel) (by decide +kernel) (by decide) ?_
        exact law_c1 hL C0 hi5 nx hK hI hP hD hS hl
      · refine lv_tableIn (off := 118) (tgt := 150) hx hb dL_law_32 (by decide +kernel) (by decide +kernel) (by decide +kernel) (by decide) ?_
        exact law_c2 hL C0 hi5 nx hK hI hP hD hS hl
      · refine lv_tableIn (off := 129) (tgt := 161) hx hb dL_law_32 (by decide +kernel) (by decide +kernel) (by decide +kernel) (by decide) ?_
        exact law_c3 hL C0 hi5 nx hK hI hP hD hS hl
      · refine lv_tableIn (off := 142) (tgt := 174) hx hb dL_law_32 (by decide +kernel) (by decide +kernel) (by decide +kernel) (by decide) ?_
        exact law_c4 hL C0 hi5 nx hK hI hP hD hS hl
      · refine lv_tableIn (off := 165) (tgt := 197) hx hb dL_law_32 (by decide +kernel) (by decide +kernel) (by decide +kernel) (by decide) ?_
        exact law_c5 hL C0 hi5 nx hK hI hP hD hS hl
      · refine lv_tableIn (off := 208) (tgt := 240) hx hb dL_law_32 (by decide +kernel) (by decide +kernel) (by decide +kernel) (by decide) ?_
        exact law_c6 hL C0 hi5 nx hK hI hP hD hS hl
      · refine lv_tableIn (off := 241) (tgt := 273) hx hb dL_law_32 (by decide +kernel) (by decide +kernel) (by decide +kernel) (by decide) ?_
        exact law_c7 hL C0 hi5 nx hK hI hP hD hS hl
      · refine lv_tableIn (off := 274) (tgt := 306) hx hb dL_law_32 (by decide +kernel) (by decide +kernel) (by decide +kernel) (by decide) ?_
        exact law_c8 hL C0 hi5 nx hK hI hP hD hS hl
      · refine lv_tableOut (tgt := 349) hx hb dL_law_32 (Or.inr (by rw [nI_toInt (by omega)]; omega)) (by decide) ?_
        exact nx M n hI H locs hP hD hS ls hl
set_option maxHeartbeats 4000000 in
set_option maxRecDepth 100000 in
theorem whole_start {p : Program} {e : Env} {s : State} {m : MethodId} {below : List Frame} {meth : Method} {c : Code} (l : Launch) {b L : Nat} {xs : Nat → Int32} (hL : L ≤ 2560) (C0 : lw_At p s m meth c b L xs) : W p l e room_1 s m #[Value.ref b] below meth c s.heap [] 0 0 (lw_Z below #[Value.ref b] s) (entryFrame m ([Value.ref b] : List Value).toArray 4) := by
  obtain ⟨hx, hb, hr, hml, hown, hts, hX, hbl, hlocks, hgv⟩ := id C0
  have hts := fun w h => hts w (wsL_law_in w h)
  have hA : ∀ q : Nat, s.heap.size ≤ q → (fun q : Nat => s.heap.size ≤ q) q := fun _ h => h
  obtain ⟨c0, iS0, hKn0⟩ := u_known (C := RX0) (T := TX0) (N := 4) (n := 4) hts inlX0 (hts (.instantiable RX0 4) (by decide +kernel))
  obtain ⟨c1, iS1, hKn1⟩ := u_known (C := RX1) (T := TX1) (N := 3) (n := 3) hts inlX1 (hts (.instantiable RX1 3) (by decide +kernel))
  obtain ⟨dC, dI, hKc⟩ : ∃ (dC : Nat → ClassId) (dI : Nat → Nat → Nat), ∀ (k : Nat) (q : vw_C), vwCl[k]? = some q → u_Kn s q.1 q.2.1 q.2.2 (dC k) (dI k) := by
    refine ⟨fun k => if k = 0 then c0 else c1, fun k => if k = 0 then iS0 else iS1, ?_⟩
    intro k q hq
    match k, hq with
    | 0, hq => cases hq; exact hKn0
    | 1, hq => cases hq; exact hKn1
    | k + 2, hq => simp [vwCl] at hq
  have hS : va_S (fun q : Nat => s.heap.size ≤ q) s.heap s.heap [] := va_S.rf
  have hK : va_K (dC, dI) vwCl [] s := ⟨hKc, fun k q h => by simp at h⟩
  have hP : va_P (dC, dI) vwCl [] s.heap := fun k q h => by simp at h
  have hD : va_D (fun q : Nat => s.heap.size ≤ q) [] := ⟨fun i j p q h => by simp at h, fun k q h => by simp at h⟩
  clear hKc hKn0 hKn1
  have hl := lv_entry ([.ref b]) (n := 4) (Nat.le_of_ble_eq_true rfl)
  rw [lg_entry_eq]
  generalize (lg_sl ([.ref b]) ++ List.replicate (4 - (lg_sl ([.ref b])).length) Slot.unset).toArray = ls at hl ⊢
  have hl : lv_has ls 4 [(0, .ref b)] := hl
  refine va_new (ci := 0) (fs := [.null, .null, .null, .int 0]) (C := RX0) (T := TX0) (N := 4) hx hb hts inlX0 tyX0 tyX0_ok hown (hts (.classLink RL 7 RX0) (by decide +kernel)) (hts (.instantiable RX0 4) (by decide +kernel)) (hts (.initialized RX0) (by decide +kernel)) hK hP hD hS hA rfl (fun j hj => by rcases (show j = 0 ∨ j = 1 ∨ j = 2 ∨ j = 3 by omega) with rfl | rfl | rfl | rfl <;> rfl) (show 1 ≤ 600000 by decide) (show 4 ≤ 7302250 by decide) dL_law_0 (fun h0 H hP hD hS => ?_)
  have hP : va_P (dC, dI) vwCl [(h0, .inr (0, [.null, .null, .null, .int 0]))] H := hP
  have hD : va_D (fun q : Nat => s.heap.size ≤ q) [(h0, .inr (0, [.null, .null, .null, .int 0]))] := hD
  refine W.widen (k := 1) (n := 4) (by omega) (by omega) ?_
  refine lv_dup hx hb dL_law_3 rfl ?_
  have hFc := va_free (wc := [(h0, .inr (0, [.null, .null, .null, .int 0]))]) hD hS hA [0] rfl
  refine va_callv (va_runI (As := []) (rest := [.ref h0]) ⟨hx, hb, hml, hown, hts⟩ (cC_init l dC dI h0 H.size) (cwI 0 hts gL_law_X0_init rfl rfl rfl (hts (.initialized RX0) (by decide +kernel)) (hts (.methodLink RL 9 yX0_init) (by decide +kernel)) (hts (.instanceMethod yX0_init) (by decide +kernel)) rfl (by decide +kernel) ⟨Nat.le_of_ble_eq_true rfl, Nat.le_of_ble_eq_true rfl⟩) ⟨fun a U g mk q => by obtain ⟨q0, q1, qP, qK, qD⟩ := q; exact ⟨q0, q1, qP, va_K.moved (u := U) (U := U.calling g mk a) (Vm.Alike.refl U.vm) qK, qD⟩, fun U hU hW => ⟨rfl, by rw [hU], by rw [hU]; exact hP, va_K.moved hW.alike hK, hD.weaken (fun _ _ _ _ => trivial)⟩⟩ rfl rfl hl.1 rfl (lv_room (Nat.le_of_ble_eq_true rfl)) dL_law_4 ⟨(show 4 ≤ 600000 by decide), (show 4621 ≤ 7302250 by decide)⟩) hS (fun q _ h => hFc q h) hFc (fun u t H1 locs ht hvm hw hB hz1 hk1 hS => ?_)
  obtain ⟨h1, h2, h3, k1, k2, k3, hP1, hK1, hD1⟩ := hB
  rw [ht] at hP1
  have hK1 := va_K.moved hvm.symm hK1
  obtain ⟨hP, hD⟩ := va_join (wr := []) (w1 := wC h0 h1 h2 h3 k1 k2 k3 pb_z pb_z pb_z1 0) hP hD [0] [] rfl rfl (by decide) (by decide) hk1 hFc hP1 hD1
  generalize H1 = H at hP hS ⊢
  clear hFc hP1 hD1 hk1 ht hw hz1 hvm hK
  have hK : va_K (dC, dI) vwCl (tC k1 k2 k3) s := hK1
  have hP : va_P (dC, dI) vwCl (wC h0 h1 h2 h3 k1 k2 k3 pb_z pb_z pb_z1 0) H := hP
  have hD : va_D (fun q : Nat => s.heap.size ≤ q) (wC h0 h1 h2 h3 k1 k2 k3 pb_z pb_z pb_z1 0) := hD
  refine W.widen (k := 4) (n := 4621) (by omega) (by omega) ?_
  refine lv_astore_n (lv' := [(1, .ref h0), (0, .ref b)]) hx hb dL_law_7 rfl hl (by decide) rfl (fun ls hl => ?_)
  refine va_new (ci := 1) (fs := [.int 0, .int 0, .null]) (C := RX1) (T := TX1) (N := 3) hx hb hts inlX1 tyX1 tyX1_ok hown (hts (.classLink RL 10 RX1) (by decide +kernel)) (hts (.instantiable RX1 3) (by decide +kernel)) (hts (.initialized RX1) (by decide +kernel)) hK hP hD hS hA rfl (fun j hj => by rcases (show j = 0 ∨ j = 1 ∨ j = 2 by omega) with rfl | rfl | rfl <;> rfl) (show 5 ≤ 600000 by decide) (show 4624 ≤ 7302250 by decide) dL_law_8 (fun g0 H hP hD hS => ?_)
  have hP : va_P (dC, dI) vwCl [(h0, .inr (0, [.ref h1, .ref h2, .ref h3, .int (nI 0)])), (h1, .inl (k1, 1539, .inl pb_z)), (h2, .inl (k2, 1539, .inl pb_z)), (h3, .inl (k3, 1539, .inl pb_z1)), (g0, .inr (1, [.int 0, .int 0, .null]))] H := hP
  have hD : va_D (fun q : Nat => s.heap.size ≤ q) [(h0, .inr (0, [.ref h1, .ref h2, .ref h3, .int (nI 0)])), (h1, .inl (k1, 1539, .inl pb_z)), (h2, .inl (k2, 1539, .inl pb_z)), (h3, .inl (k3, 1539, .inl pb_z1)), (g0, .inr (1, [.int 0, .int 0, .null]))] := hD
  refine W.widen (k := 5) (n := 4624) (by omega) (by omega) ?_
  refine lv_dup hx hb dL_law_11 rfl ?_
  have hPc := hP.sub (ws' := [(g0, .inr (1, [.int 0, .int 0, .null]))]) [4] rfl
  have hDc := hD.sub (ws' := [(g0, .inr (1, [.int 0, .int 0, .null]))]) [4] (by decide) rfl
  have hKc := hK.sub (tys' := []) [] rfl
  have hFc := va_free (wc := [(g0, .inr (1, [.int 0, .int 0, .null]))]) hD hS hA [4] rfl
  refine va_callv (va_runI (As := []) (rest := [.ref g0]) ⟨hx, hb, hml, hown, hts⟩ (cR_init l dC dI g0 H.size) (cwI 0 hts gL_law_X1_init rfl rfl rfl (hts (.initialized RX1) (by decide +kernel)) (hts (.methodLink RL 12 yX1_init) (by decide +kernel)) (hts (.instanceMethod yX1_init) (by decide +kernel)) rfl (by decide +kernel) ⟨Nat.le_of_ble_eq_true rfl, Nat.le_of_ble_eq_true rfl⟩) ⟨fun a U g mk q => by obtain ⟨q0, q1, qP, qK, qD⟩ := q; exact ⟨q0, q1, qP, va_K.moved (u := U) (U := U.calling g mk a) (Vm.Alike.refl U.vm) qK, qD⟩, fun U hU hW => ⟨rfl, by rw [hU], by rw [hU]; exact hPc, va_K.moved hW.alike hKc, hDc.weaken (fun _ _ _ _ => trivial)⟩⟩ rfl rfl hl.1 rfl (lv_room (Nat.le_of_ble_eq_true rfl)) dL_law_12 ⟨(show 6 ≤ 600000 by decide), (show 9241 ≤ 7302250 by decide)⟩) hS (fun q _ h => hFc q h) hFc (fun u t H1 locs ht hvm hw hB hz1 hk1 hS => ?_)
  obtain ⟨g1, r1, hP1, hK1, hD1⟩ := hB
  rw [ht] at hP1
  have hK1 := va_K.moved hvm.symm hK1
  obtain ⟨hP, hD⟩ := va_join (wr := wC h0 h1 h2 h3 k1 k2 k3 pb_z pb_z pb_z1 0) (w1 := wR g0 g1 r1 pb_m0 0) hP hD [4] [0, 1, 2, 3] rfl rfl (by decide) (by decide) hk1 hFc hP1 hD1
  generalize H1 = H at hP hS ⊢
  have hK : va_K (dC, dI) vwCl (tL k1 k2 k3 r1) s := hK.app hK1
  have hP : va_P (dC, dI) vwCl [(h0, .inr (0, [.ref h1, .ref h2, .ref h3, .int (nI 0)])), (h1, .inl (k1, 1539, .inl pb_z)), (h2, .inl (k2, 1539, .inl pb_z)), (h3, .inl (k3, 1539, .inl pb_z1)), (g0, .inr (1, [.int (nI 0), .int (nI 0), .ref g1])), (g1, .inl (r1, 4617, .inl pb_m0))] H := hP
  have hD : va_D (fun q : Nat => s.heap.size ≤ q) [(h0, .inr (0, [.ref h1, .ref h2, .ref h3, .int (nI 0)])), (h1, .inl (k1, 1539, .inl pb_z)), (h2, .inl (k2, 1539, .inl pb_z)), (h3, .inl (k3, 1539, .inl pb_z1)), (g0, .inr (1, [.int (nI 0), .int (nI 0), .ref g1])), (g1, .inl (r1, 4617, .inl pb_m0))] := hD
  have eP : wL h0 h1 h2 h3 k1 k2 k3 g0 g1 r1 pb_m0 0 = [(h0, .inr (0, [.ref h1, .ref h2, .ref h3, .int (nI 0)])), (h1, .inl (k1, 1539, .inl pb_z)), (h2, .inl (k2, 1539, .inl pb_z)), (h3, .inl (k3, 1539, .inl pb_z1)), (g0, .inr (1, [.int (nI 0), .int (nI 0), .ref g1])), (g1, .inl (r1, 4617, .inl pb_m0))] := by
    show ([(h0, .inr (0, [.ref h1, .ref h2, .ref h3, .int (nI 0)])), (h1, .inl (k1, 1539, .inl (pr0 pb_m0))), (h2, .inl (k2, 1539, .inl (pr1 pb_m0))), (h3, .inl (k3, 1539, .inl (pr2 pb_m0))), (g0, .inr (1, [.int (nI 0), .int (nI 0), .ref g1])), (g1, .inl (r1, 4617, .inl pb_m0))] : va_W) = _
    rw [pb_rel_00, pb_rel_01, pb_rel_02]
  rw [← eP] at hP hD
  refine W.widen (k := 6) (n := 9241) (by omega) (by omega) ?_
  refine lv_astore_n (lv' := [(2, .ref g0), (1, .ref h0), (0, .ref b)]) hx hb dL_law_15 rfl hl (by decide) rfl (fun ls hl => ?_)
  refine lv_iconst (v := nI 0) hx hb dL_law_16 (by decide +kernel) ?_
  refine lv_istore_n (lv' := [(3, .int (nI 0)), (2, .ref g0), (1, .ref h0), (0, .ref b)]) hx hb dL_law_17 rfl hl (by decide) rfl (fun ls hl => ?_)
  exact law_loop hL C0 hK (L + 1) 0 (by omega) (by decide) pb_m0 0 pb_LI_0 H _ hP hD hS ls (lv_sub hl [0, 3, 2, 1] rfl)
