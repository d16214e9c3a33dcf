theorem pb_bm {n : Int} (h1 : -9223372036854775808 ≤ n) (h2 : n < 9223372036854775808) : n.bmod (2 ^ 64) = n := by
  apply Int.bmod_eq_of_le
  · omega
  · omega
theorem pb_bm32 {n : Int} (h1 : -2147483648 ≤ n) (h2 : n < 2147483648) : n.bmod (2 ^ 32) = n := by
  apply Int.bmod_eq_of_le
  · omega
  · omega
theorem pb_mulb {u v : Int} {a b : Nat} (hu : u.natAbs ≤ a) (hv : v.natAbs ≤ b) : (u * v).natAbs ≤ a * b := by
  rw [Int.natAbs_mul]
  exact Nat.mul_le_mul hu hv
def pb_in (v : Int32) : Prop := -4096 ≤ v.toInt ∧ v.toInt ≤ 4096
theorem pb_E_int {X Y : Nat → Int32} {a b : Nat} {x y : Int64} (h1 : pb_in (X a)) (h2 : pb_in (X b)) (h3 : pb_in (Y a)) (h4 : pb_in (Y b)) (hx : x.toInt.natAbs ≤ 68719476736) (hy : y.toInt.natAbs ≤ 68719476736) :
    (pb_E X Y a b x y).toInt = ((X b).toInt - (X a).toInt) * (y.toInt - (Y a).toInt) - ((Y b).toInt - (Y a).toInt) * (x.toInt - (X a).toInt) := by
  obtain ⟨h1a, h1b⟩ := h1
  obtain ⟨h2a, h2b⟩ := h2
  obtain ⟨h3a, h3b⟩ := h3
  obtain ⟨h4a, h4b⟩ := h4
  have e1 : (X b - X a).toInt64.toInt = (X b).toInt - (X a).toInt := by
    rw [Int32.toInt_toInt64, Int32.toInt_sub, pb_bm32 (by omega) (by omega)]
  have e2 : (Y b - Y a).toInt64.toInt = (Y b).toInt - (Y a).toInt := by
    rw [Int32.toInt_toInt64, Int32.toInt_sub, pb_bm32 (by omega) (by omega)]
  have e3 : (y - (Y a).toInt64).toInt = y.toInt - (Y a).toInt := by
    rw [Int64.toInt_sub, Int32.toInt_toInt64, pb_bm (by omega) (by omega)]
  have e4 : (x - (X a).toInt64).toInt = x.toInt - (X a).toInt := by
    rw [Int64.toInt_sub, Int32.toInt_toInt64, pb_bm (by omega) (by omega)]
  have m1 := pb_mulb (u := (X b).toInt - (X a).toInt) (v := y.toInt - (Y a).toInt) (a := 8192) (b := 68719480832) (by omega) (by omega)
  have m2 := pb_mulb (u := (Y b).toInt - (Y a).toInt) (v := x.toInt - (X a).toInt) (a := 8192) (b := 68719480832) (by omega) (by omega)
  unfold pb_E
  rw [Int64.toInt_sub, Int64.toInt_mul, Int64.toInt_mul, e1, e2, e3, e4]
  generalize ((X b).toInt - (X a).toInt) * (y.toInt - (Y a).toInt) = u at m1 ⊢
  generalize ((Y b).toInt - (Y a).toInt) * (x.toInt - (X a).toInt) = v at m2 ⊢
  rw [pb_bm (n := u) (by omega) (by omega), pb_bm (n := v) (by omega) (by omega), pb_bm (by omega) (by omega)]
theorem pb_mid_int (a : Int32) : (pb_mid a).toInt = 16 * a.toInt + 8 := by
  have h1 := a.le_toInt
  have h2 := a.toInt_lt
  unfold pb_mid
  rw [Int64.toInt_add, Int64.toInt_mul, Int32.toInt_toInt64, show (16 : Int64).toInt = 16 from rfl, show (8 : Int64).toInt = 8 from rfl, pb_bm (n := 16 * a.toInt) (by omega) (by omega), pb_bm (by omega) (by omega)]
theorem pb_mid_abs (a : Int32) : (pb_mid a).toInt.natAbs ≤ 68719476736 := by
  have h1 := a.le_toInt
  have h2 := a.toInt_lt
  rw [pb_mid_int]
  omega
theorem pb_ring (x0 y0 x1 y1 x2 y2 x y : Int) : ((x2 - x1) * (y - y1) - (y2 - y1) * (x - x1)) + ((x0 - x2) * (y - y2) - (y0 - y2) * (x - x2)) + ((x1 - x0) * (y - y0) - (y1 - y0) * (x - x0)) = (x1 - x0) * (y2 - y0) - (y1 - y0) * (x2 - x0) := by
  grind
theorem pb_cp_at {f : Nat → Int32} {n k : Nat} (hn : n < 512) (hk : k < 3) : pb_cp f n (n * 3 + k) = f (1536 + k) := by
  unfold pb_cp
  match k, hk with
  | 0, _ =>
    show pb_cp1 _ n 2 (n * 3 + 0) = _
    unfold pb_cp1
    rw [pk_un (by omega), pk_un (by omega), pk_us]
  | 1, _ =>
    show pb_cp1 _ n 2 (n * 3 + 1) = _
    unfold pb_cp1
    rw [pk_un (by omega), pk_us, pk_un (by omega)]
  | 2, _ =>
    unfold pb_cp1
    rw [pk_us, pk_un (by omega), pk_un (by omega)]
theorem pb_cp_ne {f : Nat → Int32} {n j : Nat} (h : j < n * 3 ∨ n * 3 + 3 ≤ j) : pb_cp f n j = f j := by
  unfold pb_cp pb_cp1
  rw [pk_un (by omega), pk_un (by omega), pk_un (by omega)]
def pb_ins (X Y : Nat → Int32) (sl : Nat) : Prop := ∀ k, k < 3 → pb_in (X (sl * 3 + k)) ∧ pb_in (Y (sl * 3 + k))
def pb_I (xa ya xb yb x y : Int) : Int := (xb - xa) * (y - ya) - (yb - ya) * (x - xa)
theorem pb_e_int {X Y : Nat → Int32} {sl k : Nat} {x y : Int64} (hk : k < 3) (h : pb_ins X Y sl) (hx : x.toInt.natAbs ≤ 68719476736) (hy : y.toInt.natAbs ≤ 68719476736) :
    (pb_e X Y sl k x y).toInt = pb_I (X (sl * 3 + (k + 1) % 3)).toInt (Y (sl * 3 + (k + 1) % 3)).toInt (X (sl * 3 + (k + 2) % 3)).toInt (Y (sl * 3 + (k + 2) % 3)).toInt x.toInt y.toInt :=
  pb_E_int (h _ (by omega)).1 (h _ (by omega)).1 (h _ (by omega)).2 (h _ (by omega)).2 hx hy
theorem pb_in_abs {v : Int32} (h : pb_in v) : v.toInt64.toInt.natAbs ≤ 68719476736 := by
  obtain ⟨h1, h2⟩ := h
  rw [Int32.toInt_toInt64]
  omega
def pb_A (x0 y0 x1 y1 x2 y2 : Int) : Int := (x1 - x0) * (y2 - y0) - (x2 - x0) * (y1 - y0)
theorem pb_ar_int {X Y : Nat → Int32} {sl : Nat} (h : pb_ins X Y sl) : (pb_ar X Y sl).toInt = pb_A (X (sl * 3 + 0)).toInt (Y (sl * 3 + 0)).toInt (X (sl * 3 + 1)).toInt (Y (sl * 3 + 1)).toInt (X (sl * 3 + 2)).toInt (Y (sl * 3 + 2)).toInt := by
  have q := pb_e_int (k := 2) (x := (X (sl * 3 + 2)).toInt64) (y := (Y (sl * 3 + 2)).toInt64) (by decide) h (pb_in_abs (h 2 (by decide)).1) (pb_in_abs (h 2 (by decide)).2)
  rw [Int32.toInt_toInt64, Int32.toInt_toInt64] at q
  have q2 : (pb_ar X Y sl).toInt = pb_I (X (sl * 3 + 0)).toInt (Y (sl * 3 + 0)).toInt (X (sl * 3 + 1)).toInt (Y (sl * 3 + 1)).toInt (X (sl * 3 + 2)).toInt (Y (sl * 3 + 2)).toInt := q
  rw [q2, pb_I, pb_A, Int.mul_comm ((Y (sl * 3 + 1)).toInt - (Y (sl * 3 + 0)).toInt)]
theorem pb_ring2 (x0 y0 x1 y1 x2 y2 x y : Int) : pb_I x1 y1 x2 y2 x y + pb_I x2 y2 x0 y0 x y + pb_I x0 y0 x1 y1 x y = pb_A x0 y0 x1 y1 x2 y2 := by
  unfold pb_I pb_A
  grind
theorem pb_A_abs {x0 y0 x1 y1 x2 y2 : Int32} (h0 : pb_in x0) (g0 : pb_in y0) (h1 : pb_in x1) (g1 : pb_in y1) (h2 : pb_in x2) (g2 : pb_in y2) : (pb_A x0.toInt y0.toInt x1.toInt y1.toInt x2.toInt y2.toInt).natAbs ≤ 134217728 := by
  obtain ⟨a1, a2⟩ := h0
  obtain ⟨a3, a4⟩ := g0
  obtain ⟨a5, a6⟩ := h1
  obtain ⟨a7, a8⟩ := g1
  obtain ⟨b1, b2⟩ := h2
  obtain ⟨b3, b4⟩ := g2
  have m1 := pb_mulb (u := x1.toInt - x0.toInt) (v := y2.toInt - y0.toInt) (a := 8192) (b := 8192) (by omega) (by omega)
  have m2 := pb_mulb (u := x2.toInt - x0.toInt) (v := y1.toInt - y0.toInt) (a := 8192) (b := 8192) (by omega) (by omega)
  unfold pb_A
  generalize (x1.toInt - x0.toInt) * (y2.toInt - y0.toInt) = u at m1 ⊢
  generalize (x2.toInt - x0.toInt) * (y1.toInt - y0.toInt) = v at m2 ⊢
  omega
theorem pb_xor {a b : Int64} (ha : 0 ≤ a.toInt) (hb : 0 ≤ b.toInt) : ¬ (a ^^^ b) < 0 := by
  intro h
  rw [Int64.lt_iff_toInt_lt] at h
  have h0 : (a ^^^ b).toBitVec.msb = true := by
    rw [BitVec.msb_eq_toInt]
    exact decide_eq_true h
  rw [Int64.toBitVec_xor, BitVec.msb_xor, BitVec.msb_eq_toInt, BitVec.msb_eq_toInt] at h0
  have a1 : ¬ a.toBitVec.toInt < 0 := Int.not_lt.mpr ha
  have b1 : ¬ b.toBitVec.toInt < 0 := Int.not_lt.mpr hb
  rw [decide_eq_false a1, decide_eq_false b1] at h0
  exact absurd h0 (by decide)
theorem pb_fd_int {a b : Int64} (ha : 0 ≤ a.toInt) (hb : 0 < b.toInt) : (pb_fd a b).toInt = a.toInt / b.toInt := by
  unfold pb_fd
  rw [if_neg (fun h => pb_xor ha (Int.le_of_lt hb) h.1), Int64.toInt_div_of_ne_right a b (fun h => by rw [h] at hb; exact absurd hb (by decide)), Int.tdiv_eq_ediv_of_nonneg ha]
theorem pb_wr {w r A : Int} (h1 : 0 ≤ w) (h2 : w ≤ A) (h3 : 0 ≤ r) (h4 : r ≤ 1048576) : 0 ≤ w * r ∧ w * r ≤ 1048576 * w := by
  refine ⟨Int.mul_nonneg h1 h3, ?_⟩
  rw [Int.mul_comm 1048576 w]
  exact Int.mul_le_mul_of_nonneg_left h4 h1
theorem pb_nn_int {X Y Z : Nat → Int32} {sl : Nat} {x y : Int64} (h : pb_ins X Y sl) (hZ : ∀ k, k < 3 → 0 ≤ (Z (sl * 3 + k)).toInt ∧ (Z (sl * 3 + k)).toInt ≤ 1048576) (hx : x.toInt.natAbs ≤ 68719476736) (hy : y.toInt.natAbs ≤ 68719476736) (hA : 0 < pb_ar X Y sl) (hc : pb_cov X Y sl x y = true) :
    0 ≤ (pb_nn X Y Z sl x y).toInt ∧ 0 ≤ (pb_sum X Y Z sl x y).toInt ∧ (pb_nn X Y Z sl x y).toInt = ((pb_e X Y sl 0 x y).toInt * (Z (sl * 3 + 0)).toInt + (pb_e X Y sl 1 x y).toInt * (Z (sl * 3 + 1)).toInt + (pb_e X Y sl 2 x y).toInt * (Z (sl * 3 + 2)).toInt) / (pb_ar X Y sl).toInt := by
  have hA' : 0 < (pb_ar X Y sl).toInt := Int64.lt_iff_toInt_lt.mp hA
  have pos : ∀ k, pb_c1 X Y sl k x y = true → 0 ≤ (pb_e X Y sl k x y).toInt := by
    intro k hk
    simp only [pb_c1, Bool.and_eq_true, Bool.not_eq_true', decide_eq_false_iff_not] at hk
    have q := hk.1
    rw [Int64.lt_iff_toInt_lt] at q
    exact Int.not_lt.mp q
  simp only [pb_cov, Bool.and_eq_true] at hc
  have p0 := pos 0 hc.1
  have p1 := pos 1 hc.2.1
  have p2 := pos 2 hc.2.2
  have e0 := pb_e_int (k := 0) (by decide) h hx hy
  have e1 := pb_e_int (k := 1) (by decide) h hx hy
  have e2 := pb_e_int (k := 2) (by decide) h hx hy
  have ea := pb_ar_int h
  have hs : (pb_e X Y sl 0 x y).toInt + (pb_e X Y sl 1 x y).toInt + (pb_e X Y sl 2 x y).toInt = (pb_ar X Y sl).toInt := by
    rw [e0, e1, e2, ea]
    exact pb_ring2 _ _ _ _ _ _ _ _
  have hab := pb_A_abs (h 0 (by decide)).1 (h 0 (by decide)).2 (h 1 (by decide)).1 (h 1 (by decide)).2 (h 2 (by decide)).1 (h 2 (by decide)).2
  rw [← ea] at hab
  clear e0 e1 e2 ea
  have z0 := hZ 0 (by decide)
  have z1 := hZ 1 (by decide)
  have z2 := hZ 2 (by decide)
  have b0 := pb_wr (A := (pb_ar X Y sl).toInt) p0 (by omega) z0.1 z0.2
  have b1 := pb_wr (A := (pb_ar X Y sl).toInt) p1 (by omega) z1.1 z1.2
  have b2 := pb_wr (A := (pb_ar X Y sl).toInt) p2 (by omega) z2.1 z2.2
  have t0 : (pb_e X Y sl 0 x y * (Z (sl * 3 + 0)).toInt64).toInt = (pb_e X Y sl 0 x y).toInt * (Z (sl * 3 + 0)).toInt := by
    rw [Int64.toInt_mul, Int32.toInt_toInt64, pb_bm (by omega) (by omega)]
  have t1 : (pb_e X Y sl 1 x y * (Z (sl * 3 + 1)).toInt64).toInt = (pb_e X Y sl 1 x y).toInt * (Z (sl * 3 + 1)).toInt := by
    rw [Int64.toInt_mul, Int32.toInt_toInt64, pb_bm (by omega) (by omega)]
  have t2 : (pb_e X Y sl 2 x y * (Z (sl * 3 + 2)).toInt64).toInt = (pb_e X Y sl 2 x y).toInt * (Z (sl * 3 + 2)).toInt := by
    rw [Int64.toInt_mul, Int32.toInt_toInt64, pb_bm (by omega) (by omega)]
  have ts : (pb_sum X Y Z sl x y).toInt = (pb_e X Y sl 0 x y).toInt * (Z (sl * 3 + 0)).toInt + (pb_e X Y sl 1 x y).toInt * (Z (sl * 3 + 1)).toInt + (pb_e X Y sl 2 x y).toInt * (Z (sl * 3 + 2)).toInt := by
    unfold pb_sum
    rw [Int64.toInt_add, Int64.toInt_add, Int64.toInt_add, t0, t1, t2, show (0 : Int64).toInt = 0 from rfl, Int.zero_add, pb_bm (n := (pb_e X Y sl 0 x y).toInt * (Z (sl * 3 + 0)).toInt) (by omega) (by omega), pb_bm (n := (pb_e X Y sl 0 x y).toInt * (Z (sl * 3 + 0)).toInt + (pb_e X Y sl 1 x y).toInt * (Z (sl * 3 + 1)).toInt) (by omega) (by omega), pb_bm (by omega) (by omega)]
  rw [← ts]
  have tl : 0 ≤ (pb_sum X Y Z sl x y).toInt ∧ (pb_sum X Y Z sl x y).toInt ≤ 1048576 * (pb_ar X Y sl).toInt := by
    rw [ts]
    omega
  have f := pb_fd_int tl.1 hA'
  have q0 := Int.ediv_nonneg tl.1 (Int.le_of_lt hA')
  have q1 := Int.ediv_le_of_le_mul (b := 1048576) hA' tl.2
  have v : (pb_nn X Y Z sl x y).toInt = (pb_sum X Y Z sl x y).toInt / (pb_ar X Y sl).toInt := by
    unfold pb_nn
    rw [if_pos hA, Int64.toInt_toInt32, f, pb_bm32 (by omega) (by omega)]
  exact ⟨by rw [v]; exact q0, tl.1, v⟩
