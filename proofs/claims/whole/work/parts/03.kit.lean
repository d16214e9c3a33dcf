section PB
variable {p : Program} {l : Launch} {e : Env} {R : Room} {s : State} {m : MethodId} {args : Array Value} {below : List Frame} {meth : Method} {c : Code} {H : Heap} {locs : List Loc} {cells slots : Nat} {Q : State → Prop}
variable {cc : ByteArray} {pc : Nat} {ls : Array Slot} {rest st0 : List Value} {D : va_G} {cl : List vw_C} {A : Nat → Prop} {a : Nat} {tys : List (ClassId × FieldType)} {ws : va_W} {H0 : Heap}
theorem pb_eqi {x y : Int32} (h : x = y) (k : W p l e R s m args below meth c H locs cells slots Q (F0 m pc ls (.int y :: rest))) : W p l e R s m args below meth c H locs cells slots Q (F0 m pc ls (.int x :: rest)) := by
  rw [h]; exact k
theorem pb_eql {x y : Int64} (h : x = y) (k : W p l e R s m args below meth c H locs cells slots Q (F0 m pc ls (.long y :: rest))) : W p l e R s m args below meth c H locs cells slots Q (F0 m pc ls (.long x :: rest)) := by
  rw [h]; exact k
theorem pb_call {r : Value} {av : Array Value} (hr : CallRun p l e R s m args below meth c H locs cells slots 0 0 (F0 m pc ls st0) rest (k2_QcV r av) (fun _ => False)) (kk : W p l e R s m args below meth c H locs cells slots Q (F0 m (pc + 3) ls (r :: rest))) : W p l e R s m args below meth c H locs cells slots Q (F0 m pc ls st0) := W.callV hr kk
theorem pb_ald (hexec : p.tables.exec = Jvm.exec) (hb : c.code = cc) (hK : va_K D cl tys s) (hP : va_P D cl ws H) (q0 t0 : Nat) {cA : ClassId} {n : Nat} {f : Nat → Int32} (ha : ws[q0]? = some (a, .inl (cA, n, .inl f))) (ht : tys[t0]? = some (cA, .int)) {j : Nat} (hj : j < n) (hn : n < 2 ^ 31) (hdg : decode cc pc = .ok (.iaload, 1))
    (kk : W p l e R s m args below meth c H locs cells slots Q (F0 m (pc + 1) ls (.int (f j) :: rest))) : W p l e R s m args below meth c H locs cells slots Q (F0 m pc ls (.int (nI j) :: .ref a :: rest)) := by
  refine va_iald hexec hb hK hP q0 t0 ha ht (vp_in_nI hj hn) hdg ?_
  rw [nI_clamp (Nat.lt_trans hj hn)]
  exact kk
theorem pb_ast (hexec : p.tables.exec = Jvm.exec) (hb : c.code = cc) (hK : va_K D cl tys s) (hP : va_P D cl ws H) (hD : va_D A ws) (hS : va_S A H0 H locs) (q0 t0 : Nat) {cA : ClassId} {n : Nat} {f : Nat → Int32} (ha : ws[q0]? = some (a, .inl (cA, n, .inl f))) (ht : tys[t0]? = some (cA, .int)) {j : Nat} {x : Int32} (hj : j < n) (hn : n < 2 ^ 31) (hdg : decode cc pc = .ok (.iastore, 1))
    (kk : ∀ (H1 : Heap) (locs1 : List Loc), va_P D cl (ws.set q0 (a, .inl (cA, n, .inl (upd f j x)))) H1 → va_D A (ws.set q0 (a, .inl (cA, n, .inl (upd f j x)))) → va_S A H0 H1 locs1 → W p l e R s m args below meth c H1 locs1 cells slots Q (F0 m (pc + 1) ls rest)) : W p l e R s m args below meth c H locs cells slots Q (F0 m pc ls (.int x :: .int (nI j) :: .ref a :: rest)) := by
  refine va_iast hexec hb hK hP hD hS q0 t0 ha ht (vp_in_nI hj hn) hdg ?_
  rw [nI_clamp (Nat.lt_trans hj hn)]
  exact kk
theorem pb_sld (hexec : p.tables.exec = Jvm.exec) (hb : c.code = cc) {b L : Nat} {xs : Nat → Int32} (hX : va_X b L xs s H0) (hbl : b < H0.size) (hbA : ¬ A b) (hS : va_S A H0 H locs) {j : Nat} (hj : j < L) (hL : L < 2 ^ 31) (hdg : decode cc pc = .ok (.iaload, 1))
    (kk : W p l e R s m args below meth c H locs cells slots Q (F0 m (pc + 1) ls (.int (xs j) :: rest))) : W p l e R s m args below meth c H locs cells slots Q (F0 m pc ls (.int (nI j) :: .ref b :: rest)) := by
  refine va_sld hexec hb hX hbl hbA hS (vp_in_nI hj hL) hdg ?_
  rw [nI_clamp (Nat.lt_trans hj hL)]
  exact kk
end PB
theorem pb_preS {s : State} {H : Heap} {As : List Value} : PreS s H (va_Pc As (fun _ => True)) As := ⟨fun _ _ _ _ h => h, fun _ _ _ => ⟨rfl, trivial⟩⟩
def pb_b (b : Bool) : Int32 := if b = true then 1 else 0
theorem pb_b_ne {b : Bool} (h : ¬ pb_b b = 0) : b = true := by cases b with | true => rfl | false => exact absurd rfl h
theorem pb_b_eq {b : Bool} (h : pb_b b = 0) : b = false := by cases b with | false => rfl | true => exact absurd h (by decide)
def pb_grid (a : Int32) : Bool := decide (-4096 ≤ a) && decide (a ≤ 4096)
def pb_mid (a : Int32) : Int64 := 16 * a.toInt64 + 8
def pb_isP (n : Nat) (a : Int32) : Bool := decide (0 ≤ a) && decide (a < nI n)
def pb_E (X Y : Nat → Int32) (a b : Nat) (x y : Int64) : Int64 := (X b - X a).toInt64 * (y - (Y a).toInt64) - (Y b - Y a).toInt64 * (x - (X a).toInt64)
def pb_e (X Y : Nat → Int32) (sl k : Nat) (x y : Int64) : Int64 := pb_E X Y (sl * 3 + (k + 1) % 3) (sl * 3 + (k + 2) % 3) x y
def pb_own (X Y : Nat → Int32) (sl k : Nat) : Bool := decide (Y (sl * 3 + (k + 2) % 3) < Y (sl * 3 + (k + 1) % 3)) || (decide (Y (sl * 3 + (k + 2) % 3) = Y (sl * 3 + (k + 1) % 3)) && decide (X (sl * 3 + (k + 1) % 3) < X (sl * 3 + (k + 2) % 3)))
def pb_c1 (X Y : Nat → Int32) (sl k : Nat) (x y : Int64) : Bool := !(decide (pb_e X Y sl k x y < 0)) && (!(decide (pb_e X Y sl k x y = 0)) || pb_own X Y sl k)
def pb_cov (X Y : Nat → Int32) (sl : Nat) (x y : Int64) : Bool := pb_c1 X Y sl 0 x y && (pb_c1 X Y sl 1 x y && pb_c1 X Y sl 2 x y)
theorem pb_cov_t {X Y : Nat → Int32} {sl : Nat} {x y : Int64} (h : ∀ j, j < 3 → pb_c1 X Y sl j x y = true) : pb_cov X Y sl x y = true := by
  unfold pb_cov
  rw [h 0 (by decide), h 1 (by decide), h 2 (by decide)]
  rfl
theorem pb_cov_f {X Y : Nat → Int32} {sl k : Nat} {x y : Int64} (hk : k < 3) (h : pb_c1 X Y sl k x y = false) : pb_cov X Y sl x y = false := by
  unfold pb_cov
  match k, hk, h with
  | 0, _, h => rw [h]; rfl
  | 1, _, h => rw [h]; simp
  | 2, _, h => rw [h]; simp
def pb_ar (X Y : Nat → Int32) (sl : Nat) : Int64 := pb_e X Y sl 2 (X (sl * 3 + 2)).toInt64 (Y (sl * 3 + 2)).toInt64
def pb_fd (a b : Int64) : Int64 := if (a ^^^ b) < 0 ∧ ¬ (a / b * b = a) then a / b - 1 else a / b
def pb_sum (X Y Z : Nat → Int32) (sl : Nat) (x y : Int64) : Int64 := 0 + pb_e X Y sl 0 x y * (Z (sl * 3 + 0)).toInt64 + pb_e X Y sl 1 x y * (Z (sl * 3 + 1)).toInt64 + pb_e X Y sl 2 x y * (Z (sl * 3 + 2)).toInt64
def pb_nn (X Y Z : Nat → Int32) (sl : Nat) (x y : Int64) : Int32 := if 0 < pb_ar X Y sl then (pb_fd (pb_sum X Y Z sl x y) (pb_ar X Y sl)).toInt32 else -1
def pb_area (X Y : Nat → Int32) (n : Nat) (a : Int32) : Int32 := if pb_isP n a = true then (pb_ar X Y a.toNatClampNeg).toInt32 else -1
def pb_nv (X Y Z : Nat → Int32) (j : Nat) (xi yi : Int32) : Int32 := if pb_cov X Y j (pb_mid xi) (pb_mid yi) = true then pb_nn X Y Z j (pb_mid xi) (pb_mid yi) else -1
def pb_near (X Y Z : Nat → Int32) (n : Nat) (a xi yi : Int32) : Int32 := if pb_isP n a = true then pb_nv X Y Z a.toNatClampNeg xi yi else -1
def pb_ns (X Y Z : Nat → Int32) (xi yi : Int32) : Nat → Int32 × Int32
  | 0 => (-1, -1)
  | j + 1 => if (pb_ns X Y Z xi yi j).2 < pb_nv X Y Z j xi yi then (nI j, pb_nv X Y Z j xi yi) else ((pb_ns X Y Z xi yi j).1, (pb_ns X Y Z xi yi j).2)
def pb_cv (X Y : Nat → Int32) (x y : Int64) : Nat → Int32
  | 0 => 0
  | j + 1 => if pb_cov X Y j x y = true then pb_cv X Y x y j + 1 else pb_cv X Y x y j
def pb_nx (X Y : Nat → Int32) (x y : Int64) : Nat → Nat → Int32
  | 0, _ => -1
  | d + 1, j => if pb_cov X Y j x y = true then nI j else pb_nx X Y x y d (j + 1)
def pb_next (X Y : Nat → Int32) (x y : Int64) (n : Nat) (fr : Int32) : Int32 := pb_nx X Y x y (n - (if fr < 0 then (0 : Int32) else fr).toNatClampNeg) (if fr < 0 then (0 : Int32) else fr).toNatClampNeg
theorem pb_isP_t {n : Nat} {a : Int32} (hn : n ≤ 512) (h : pb_isP n a = true) : ∃ j, j < n ∧ a = nI j := by
  simp only [pb_isP, Bool.and_eq_true, decide_eq_true_eq] at h
  obtain ⟨j, hj, rfl⟩ := nI_of (x := a) (Int32.not_lt.mpr h.1)
  exact ⟨j, (nI_ltI hj (by omega)).mp h.2, rfl⟩
theorem pb_isP_n {n j : Nat} (hn : n ≤ 512) (hj : j < n) : pb_isP n (nI j) = true := by
  simp only [pb_isP, Bool.and_eq_true, decide_eq_true_eq]
  exact ⟨nI_pos' (by omega), nI_lt hj (by omega)⟩
theorem pb_area_t {X Y : Nat → Int32} {n j : Nat} (hn : n ≤ 512) (hj : j < n) : pb_area X Y n (nI j) = (pb_ar X Y j).toInt32 := by
  unfold pb_area
  rw [if_pos (pb_isP_n hn hj), nI_clamp (by omega)]
theorem pb_near_t {X Y Z : Nat → Int32} {n j : Nat} {xi yi : Int32} (hn : n ≤ 512) (hj : j < n) : pb_near X Y Z n (nI j) xi yi = pb_nv X Y Z j xi yi := by
  unfold pb_near
  rw [if_pos (pb_isP_n hn hj), nI_clamp (by omega)]
theorem pb_max (fr : Int32) : ∃ i : Nat, i < 2 ^ 31 ∧ (if fr < 0 then (0 : Int32) else fr) = nI i := by
  by_cases h : fr < 0
  · rw [if_pos h]
    exact ⟨0, by decide, nI_0.symm⟩
  · rw [if_neg h]
    exact nI_of h
theorem pb_next_of {X Y : Nat → Int32} {x y : Int64} {n i : Nat} {fr : Int32} (h : (if fr < 0 then (0 : Int32) else fr) = nI i) (hi : i < 2 ^ 31) : pb_next X Y x y n fr = pb_nx X Y x y (n - i) i := by
  unfold pb_next
  rw [h, nI_clamp hi]
def pb_ok (k x y r : Int32) : Bool := (decide (0 ≤ k) && decide (k < 3)) && ((pb_grid x && pb_grid y) && (decide (1 ≤ r) && decide (r ≤ 1048576)))
def pb_if {α : Type} (b : Bool) (x y : α) : α := if b = true then x else y
def pb_up (b : Bool) (f : Nat → Int32) (i : Nat) (v : Int32) : Nat → Int32 := if b = true then upd f i v else f
def pb_cp1 (f : Nat → Int32) (n k : Nat) : Nat → Int32 := upd f (n * 3 + k) (f (1536 + k))
def pb_cp (f : Nat → Int32) (n : Nat) : Nat → Int32 := pb_cp1 (pb_cp1 (pb_cp1 f n 0) n 1) n 2
def pb_add (X Y : Nat → Int32) (n : Nat) : Bool := decide (n < 512) && decide (0 < pb_ar X Y 512)
def pb_z : Nat → Int32 := fun _ => 0
def pb_z1 : Nat → Int32 := upd (upd (upd pb_z (1536 + 0) 1) (1536 + 1) 1) (1536 + 2) 1
