def pr0 (M : Nat → Int32) : Nat → Int32 := fun j => M (3 * j)
def pr1 (M : Nat → Int32) : Nat → Int32 := fun j => M (3 * j + 1)
def pr2 (M : Nat → Int32) : Nat → Int32 := fun j => M (3 * j + 2)
def pb_ow (X Y : Nat → Int32) (i j : Nat) : Bool := decide (Y j < Y i) || (decide (Y j = Y i) && decide (X i < X j))
def pb_h (X Y : Nat → Int32) (i j : Nat) (x y : Int64) : Bool := decide (0 < pb_E X Y i j x y) || (decide (pb_E X Y i j x y = 0) && pb_ow X Y i j)
theorem pb_ans {a b : Int32} (h : a = b) : Outcome.returned (some (.int a)) = Outcome.returned (some (.int b)) := by rw [h]
theorem pb_sgn (e : Int64) (o : Bool) : (!(decide (e < 0)) && (!(decide (e = 0)) || o)) = (decide (0 < e) || (decide (e = 0) && o)) := by
  have h1 : e < 0 ↔ e.toInt < 0 := Int64.lt_iff_toInt_lt
  have h2 : 0 < e ↔ 0 < e.toInt := Int64.lt_iff_toInt_lt
  have h3 : e = 0 ↔ e.toInt = 0 := Int64.toInt_inj.symm
  by_cases a : e.toInt < 0
  · rw [decide_eq_true (h1.mpr a), decide_eq_false (fun h => absurd (h2.mp h) (by omega)), decide_eq_false (fun h => absurd (h3.mp h) (by omega))]
    rfl
  · by_cases b : e.toInt = 0
    · rw [decide_eq_false (fun h => a (h1.mp h)), decide_eq_true (h3.mpr b), decide_eq_false (fun h => absurd (h2.mp h) (by omega))]
      cases o <;> rfl
    · rw [decide_eq_false (fun h => a (h1.mp h)), decide_eq_false (fun h => b (h3.mp h)), decide_eq_true (h2.mpr (by omega))]
      rfl
theorem pb_c1_h (X Y : Nat → Int32) (sl k : Nat) (x y : Int64) : pb_c1 X Y sl k x y = pb_h X Y (sl * 3 + (k + 1) % 3) (sl * 3 + (k + 2) % 3) x y := pb_sgn _ _
theorem pb_cov_h (X Y : Nat → Int32) (sl : Nat) (x y : Int64) : pb_cov X Y sl x y = (pb_h X Y (sl * 3 + 1) (sl * 3 + 2) x y && (pb_h X Y (sl * 3 + 2) (sl * 3) x y && pb_h X Y (sl * 3) (sl * 3 + 1) x y)) := by
  unfold pb_cov
  rw [pb_c1_h, pb_c1_h, pb_c1_h]
  rfl
def pb_I1 (M : Nat → Int32) (sl : Nat) : Prop := pb_ins (pr0 M) (pr1 M) sl ∧ (∀ k, k < 3 → 0 ≤ (pr2 M (sl * 3 + k)).toInt ∧ (pr2 M (sl * 3 + k)).toInt ≤ 1048576) ∧ 0 < pb_ar (pr0 M) (pr1 M) sl
theorem pb_I1_ne {M : Nat → Int32} {sl : Nat} (h : pb_I1 M sl) : ¬ pb_ar (pr0 M) (pr1 M) sl = 0 := fun q => by
  have h3 := h.2.2
  rw [q] at h3
  exact absurd h3 (by decide)
theorem pb_nv_no {X Y Z : Nat → Int32} {sl : Nat} {xi yi : Int32} (h : pb_cov X Y sl (pb_mid xi) (pb_mid yi) = false) : pb_nv X Y Z sl xi yi = -1 := if_neg (by rw [h]; decide)
theorem pb_nv_n1 {X Y Z : Nat → Int32} {sl : Nat} {xi yi : Int32} (h : pb_h X Y (sl * 3 + 1) (sl * 3 + 2) (pb_mid xi) (pb_mid yi) = false) : pb_nv X Y Z sl xi yi = -1 := pb_nv_no (by rw [pb_cov_h, h]; rfl)
theorem pb_nv_n2 {X Y Z : Nat → Int32} {sl : Nat} {xi yi : Int32} (h : pb_h X Y (sl * 3 + 2) (sl * 3) (pb_mid xi) (pb_mid yi) = false) : pb_nv X Y Z sl xi yi = -1 := pb_nv_no (by rw [pb_cov_h, h]; simp)
theorem pb_nv_n3 {X Y Z : Nat → Int32} {sl : Nat} {xi yi : Int32} (h : pb_h X Y (sl * 3) (sl * 3 + 1) (pb_mid xi) (pb_mid yi) = false) : pb_nv X Y Z sl xi yi = -1 := pb_nv_no (by rw [pb_cov_h, h]; simp)
theorem pb_nv_m {M : Nat → Int32} {sl : Nat} {xi yi : Int32} (hI : pb_I1 M sl) (q1 : pb_h (pr0 M) (pr1 M) (sl * 3 + 1) (sl * 3 + 2) (pb_mid xi) (pb_mid yi) = true) (q2 : pb_h (pr0 M) (pr1 M) (sl * 3 + 2) (sl * 3) (pb_mid xi) (pb_mid yi) = true) (q3 : pb_h (pr0 M) (pr1 M) (sl * 3) (sl * 3 + 1) (pb_mid xi) (pb_mid yi) = true) :
    pb_nv (pr0 M) (pr1 M) (pr2 M) sl xi yi = ((pb_e (pr0 M) (pr1 M) sl 0 (pb_mid xi) (pb_mid yi) * (pr2 M (sl * 3 + 0)).toInt64 + pb_e (pr0 M) (pr1 M) sl 1 (pb_mid xi) (pb_mid yi) * (pr2 M (sl * 3 + 1)).toInt64 + pb_e (pr0 M) (pr1 M) sl 2 (pb_mid xi) (pb_mid yi) * (pr2 M (sl * 3 + 2)).toInt64) / pb_ar (pr0 M) (pr1 M) sl).toInt32 := by
  have hc : pb_cov (pr0 M) (pr1 M) sl (pb_mid xi) (pb_mid yi) = true := by rw [pb_cov_h, q1, q2, q3]; rfl
  have hn := pb_nn_int hI.1 hI.2.1 (pb_mid_abs xi) (pb_mid_abs yi) hI.2.2 hc
  have hA : 0 < (pb_ar (pr0 M) (pr1 M) sl).toInt := Int64.lt_iff_toInt_lt.mp hI.2.2
  unfold pb_nv
  rw [if_pos hc]
  unfold pb_nn
  rw [if_pos hI.2.2]
  have hf : pb_fd (pb_sum (pr0 M) (pr1 M) (pr2 M) sl (pb_mid xi) (pb_mid yi)) (pb_ar (pr0 M) (pr1 M) sl) = pb_sum (pr0 M) (pr1 M) (pr2 M) sl (pb_mid xi) (pb_mid yi) / pb_ar (pr0 M) (pr1 M) sl := if_neg (fun h => pb_xor hn.2.1 (Int.le_of_lt hA) h.1)
  rw [hf]
  unfold pb_sum
  rw [Int64.zero_add]
theorem pb_nv_c {M : Nat → Int32} {sl : Nat} {xi yi : Int32} (_ : pb_I1 M sl) (q : ¬ pb_nv (pr0 M) (pr1 M) (pr2 M) sl xi yi = -1) : pb_cov (pr0 M) (pr1 M) sl (pb_mid xi) (pb_mid yi) = true := by
  cases h : pb_cov (pr0 M) (pr1 M) sl (pb_mid xi) (pb_mid yi) with
  | true => rfl
  | false => exact absurd (pb_nv_no h) q
theorem pb_nv_nc {M : Nat → Int32} {sl : Nat} {xi yi : Int32} (hI : pb_I1 M sl) (q : pb_nv (pr0 M) (pr1 M) (pr2 M) sl xi yi = -1) : ¬ pb_cov (pr0 M) (pr1 M) sl (pb_mid xi) (pb_mid yi) = true := by
  intro hc
  have hn := (pb_nn_int hI.1 hI.2.1 (pb_mid_abs xi) (pb_mid_abs yi) hI.2.2 hc).1
  have q2 : pb_nn (pr0 M) (pr1 M) (pr2 M) sl (pb_mid xi) (pb_mid yi) = -1 := by
    rw [← q]
    exact (if_pos hc).symm
  rw [q2] at hn
  exact absurd hn (by decide)
def pb_mk (b : Bool) (M : Nat → Int32) (i : Nat) (x y r : Int32) : Nat → Int32 := if b = true then upd (upd (upd M i x) (i + 1) y) (i + 2) r else M
def pb_cq (M : Nat → Int32) (n : Nat) : Nat → Nat → Int32
  | 0 => M
  | k + 1 => upd (pb_cq M n k) (9 * n + k) (pb_cq M n k (4608 + k))
def pb_m0 : Nat → Int32 := upd (upd (upd (fun _ => 0) (4608 + 3 * 0 + 2) 1) (4608 + 3 * 1 + 2) 1) (4608 + 3 * 2 + 2) 1
