theorem pb_rel_mk0 (b : Bool) (M : Nat → Int32) (k : Nat) (x y r : Int32) : pr0 (pb_mk b M (4608 + 3 * k) x y r) = pb_up b (pr0 M) (1536 + k) x := by
  cases b with
  | false => rfl
  | true =>
    funext j
    show upd (upd (upd M (4608 + 3 * k) x) (4608 + 3 * k + 1) y) (4608 + 3 * k + 2) r (3 * j) = upd (pr0 M) (1536 + k) x j
    rw [pk_un (f := upd (upd M (4608 + 3 * k) x) (4608 + 3 * k + 1) y) (by omega), pk_un (f := upd M (4608 + 3 * k) x) (by omega)]
    by_cases h : j = 1536 + k
    · subst h
      rw [pk_us, show 3 * (1536 + k) = 4608 + 3 * k by omega, pk_us]
    · rw [pk_un h, pk_un (by omega)]
      rfl
theorem pb_rel_mk1 (b : Bool) (M : Nat → Int32) (k : Nat) (x y r : Int32) : pr1 (pb_mk b M (4608 + 3 * k) x y r) = pb_up b (pr1 M) (1536 + k) y := by
  cases b with
  | false => rfl
  | true =>
    funext j
    show upd (upd (upd M (4608 + 3 * k) x) (4608 + 3 * k + 1) y) (4608 + 3 * k + 2) r (3 * j + 1) = upd (pr1 M) (1536 + k) y j
    rw [pk_un (f := upd (upd M (4608 + 3 * k) x) (4608 + 3 * k + 1) y) (by omega)]
    by_cases h : j = 1536 + k
    · subst h
      rw [pk_us, show 3 * (1536 + k) + 1 = 4608 + 3 * k + 1 by omega, pk_us]
    · rw [pk_un h, pk_un (f := upd M (4608 + 3 * k) x) (by omega), pk_un (by omega)]
      rfl
theorem pb_rel_mk2 (b : Bool) (M : Nat → Int32) (k : Nat) (x y r : Int32) : pr2 (pb_mk b M (4608 + 3 * k) x y r) = pb_up b (pr2 M) (1536 + k) r := by
  cases b with
  | false => rfl
  | true =>
    funext j
    show upd (upd (upd M (4608 + 3 * k) x) (4608 + 3 * k + 1) y) (4608 + 3 * k + 2) r (3 * j + 2) = upd (pr2 M) (1536 + k) r j
    by_cases h : j = 1536 + k
    · subst h
      rw [show 3 * (1536 + k) + 2 = 4608 + 3 * k + 2 by omega, pk_us, pk_us]
    · rw [pk_un h, pk_un (f := upd (upd M (4608 + 3 * k) x) (4608 + 3 * k + 1) y) (by omega), pk_un (f := upd M (4608 + 3 * k) x) (by omega), pk_un (by omega)]
      rfl
theorem pb_cq_out {M : Nat → Int32} {n : Nat} : ∀ (k q : Nat), (q < 9 * n ∨ 9 * n + k ≤ q) → pb_cq M n k q = M q := by
  intro k
  induction k with
  | zero => intro q _; rfl
  | succ k ih =>
    intro q h
    show upd (pb_cq M n k) (9 * n + k) (pb_cq M n k (4608 + k)) q = M q
    rw [pk_un (by omega)]
    exact ih q (by omega)
theorem pb_cq_in {M : Nat → Int32} {n : Nat} (hn : n < 512) : ∀ (k : Nat), k ≤ 9 → ∀ q : Nat, 9 * n ≤ q → q < 9 * n + k → pb_cq M n k q = M (4608 + (q - 9 * n)) := by
  intro k
  induction k with
  | zero => intro _ q h1 h2; exact absurd h2 (by omega)
  | succ k ih =>
    intro hk q h1 h2
    show upd (pb_cq M n k) (9 * n + k) (pb_cq M n k (4608 + k)) q = M (4608 + (q - 9 * n))
    by_cases h : q = 9 * n + k
    · subst h
      rw [pk_us, pb_cq_out k (4608 + k) (by omega), show 9 * n + k - 9 * n = k by omega]
    · rw [pk_un h]
      exact ih (by omega) q h1 (by omega)
theorem pb_rel_cq0 {M : Nat → Int32} {n : Nat} (hn : n < 512) : pr0 (pb_cq M n 9) = pb_cp (pr0 M) n := by
  funext j
  show pb_cq M n 9 (3 * j) = _
  by_cases h : n * 3 ≤ j ∧ j < n * 3 + 3
  · obtain ⟨k, rfl⟩ : ∃ k, j = n * 3 + k := ⟨j - n * 3, by omega⟩
    rw [pb_cq_in hn 9 (by omega) _ (by omega) (by omega), pb_cp_at hn (by omega)]
    show M _ = M (3 * (1536 + k))
    congr 1
    omega
  · rw [pb_cq_out 9 _ (by omega), pb_cp_ne (by omega)]
    rfl
theorem pb_rel_cq1 {M : Nat → Int32} {n : Nat} (hn : n < 512) : pr1 (pb_cq M n 9) = pb_cp (pr1 M) n := by
  funext j
  show pb_cq M n 9 (3 * j + 1) = _
  by_cases h : n * 3 ≤ j ∧ j < n * 3 + 3
  · obtain ⟨k, rfl⟩ : ∃ k, j = n * 3 + k := ⟨j - n * 3, by omega⟩
    rw [pb_cq_in hn 9 (by omega) _ (by omega) (by omega), pb_cp_at hn (by omega)]
    show M _ = M (3 * (1536 + k) + 1)
    congr 1
    omega
  · rw [pb_cq_out 9 _ (by omega), pb_cp_ne (by omega)]
    rfl
theorem pb_rel_cq2 {M : Nat → Int32} {n : Nat} (hn : n < 512) : pr2 (pb_cq M n 9) = pb_cp (pr2 M) n := by
  funext j
  show pb_cq M n 9 (3 * j + 2) = _
  by_cases h : n * 3 ≤ j ∧ j < n * 3 + 3
  · obtain ⟨k, rfl⟩ : ∃ k, j = n * 3 + k := ⟨j - n * 3, by omega⟩
    rw [pb_cq_in hn 9 (by omega) _ (by omega) (by omega), pb_cp_at hn (by omega)]
    show M _ = M (3 * (1536 + k) + 2)
    congr 1
    omega
  · rw [pb_cq_out 9 _ (by omega), pb_cp_ne (by omega)]
    rfl
theorem pb_add_lt {X Y : Nat → Int32} {n : Nat} (h : pb_add X Y n = true) : n < 512 ∧ 0 < pb_ar X Y 512 := by
  simp only [pb_add, Bool.and_eq_true, decide_eq_true_eq] at h
  exact h
theorem pb_rel_add0 (M : Nat → Int32) (n : Nat) : pr0 (pb_if (pb_add (pr0 M) (pr1 M) n) (pb_cq M n 9) M) = pb_if (pb_add (pr0 M) (pr1 M) n) (pb_cp (pr0 M) n) (pr0 M) := by
  cases h : pb_add (pr0 M) (pr1 M) n with
  | false => rfl
  | true => exact pb_rel_cq0 (pb_add_lt h).1
theorem pb_rel_add1 (M : Nat → Int32) (n : Nat) : pr1 (pb_if (pb_add (pr0 M) (pr1 M) n) (pb_cq M n 9) M) = pb_if (pb_add (pr0 M) (pr1 M) n) (pb_cp (pr1 M) n) (pr1 M) := by
  cases h : pb_add (pr0 M) (pr1 M) n with
  | false => rfl
  | true => exact pb_rel_cq1 (pb_add_lt h).1
theorem pb_rel_add2 (M : Nat → Int32) (n : Nat) : pr2 (pb_if (pb_add (pr0 M) (pr1 M) n) (pb_cq M n 9) M) = pb_if (pb_add (pr0 M) (pr1 M) n) (pb_cp (pr2 M) n) (pr2 M) := by
  cases h : pb_add (pr0 M) (pr1 M) n with
  | false => rfl
  | true => exact pb_rel_cq2 (pb_add_lt h).1
theorem pb_rel_00 : pr0 pb_m0 = pb_z := by
  funext j
  show upd (upd (upd (fun _ => 0) (4608 + 3 * 0 + 2) 1) (4608 + 3 * 1 + 2) 1) (4608 + 3 * 2 + 2) 1 (3 * j) = 0
  rw [pk_un (by omega), pk_un (by omega), pk_un (by omega)]
theorem pb_rel_01 : pr1 pb_m0 = pb_z := by
  funext j
  show upd (upd (upd (fun _ => 0) (4608 + 3 * 0 + 2) 1) (4608 + 3 * 1 + 2) 1) (4608 + 3 * 2 + 2) 1 (3 * j + 1) = 0
  rw [pk_un (by omega), pk_un (by omega), pk_un (by omega)]
theorem pb_upd_if (f : Nat → Int32) (k : Nat) (x : Int32) (j : Nat) : upd f k x j = if j = k then x else f j := rfl
theorem pb_rel_02 : pr2 pb_m0 = pb_z1 := by
  funext j
  show upd (upd (upd (fun _ => 0) (4608 + 3 * 0 + 2) 1) (4608 + 3 * 1 + 2) 1) (4608 + 3 * 2 + 2) 1 (3 * j + 2) = upd (upd (upd pb_z (1536 + 0) 1) (1536 + 1) 1) (1536 + 2) 1 j
  by_cases h2 : j = 1536 + 2
  · subst h2; rfl
  · by_cases h1 : j = 1536 + 1
    · subst h1; rfl
    · by_cases h0 : j = 1536 + 0
      · subst h0; rfl
      · rw [pk_un h2, pk_un h1, pk_un h0, pk_un (by omega), pk_un (by omega), pk_un (by omega)]
        rfl
def pb_LI (M : Nat → Int32) (n : Nat) : Prop := n ≤ 512 ∧ (∀ j, j < 1539 → pb_in (pr0 M j) ∧ pb_in (pr1 M j) ∧ 0 ≤ (pr2 M j).toInt ∧ (pr2 M j).toInt ≤ 1048576) ∧ ∀ q, q < n → 0 < pb_ar (pr0 M) (pr1 M) q
theorem pb_LI_I1 {M : Nat → Int32} {n : Nat} (h : pb_LI M n) : ∀ q, q < n → pb_I1 M q := fun q hq =>
  have h1 := h.1
  ⟨fun k hk => ⟨(h.2.1 (q * 3 + k) (by omega)).1, (h.2.1 (q * 3 + k) (by omega)).2.1⟩, fun k hk => (h.2.1 (q * 3 + k) (by omega)).2.2, h.2.2 q hq⟩
theorem pb_z1_v (j : Nat) : pb_z1 j = 0 ∨ pb_z1 j = 1 := by
  show upd (upd (upd pb_z (1536 + 0) 1) (1536 + 1) 1) (1536 + 2) 1 j = 0 ∨ upd (upd (upd pb_z (1536 + 0) 1) (1536 + 1) 1) (1536 + 2) 1 j = 1
  rw [pb_upd_if, pb_upd_if, pb_upd_if]
  by_cases h2 : j = 1536 + 2
  · rw [if_pos h2]; exact Or.inr rfl
  · rw [if_neg h2]
    by_cases h1 : j = 1536 + 1
    · rw [if_pos h1]; exact Or.inr rfl
    · rw [if_neg h1]
      by_cases h0 : j = 1536 + 0
      · rw [if_pos h0]; exact Or.inr rfl
      · rw [if_neg h0]; exact Or.inl rfl
theorem pb_LI_0 : pb_LI pb_m0 0 := by
  refine ⟨by decide, fun j _ => ?_, fun q h => absurd h (Nat.not_lt_zero q)⟩
  rw [pb_rel_00, pb_rel_01, pb_rel_02, show pb_z j = 0 from rfl]
  refine ⟨⟨by decide, by decide⟩, ⟨by decide, by decide⟩, ?_⟩
  rcases pb_z1_v j with h | h <;> rw [h] <;> decide
theorem pb_ar_congr {X Y X' Y' : Nat → Int32} {a b : Nat} (hx : ∀ k, k < 3 → X (a * 3 + k) = X' (b * 3 + k)) (hy : ∀ k, k < 3 → Y (a * 3 + k) = Y' (b * 3 + k)) : pb_ar X Y a = pb_ar X' Y' b := by
  show pb_E X Y (a * 3 + 0) (a * 3 + 1) (X (a * 3 + 2)).toInt64 (Y (a * 3 + 2)).toInt64 = pb_E X' Y' (b * 3 + 0) (b * 3 + 1) (X' (b * 3 + 2)).toInt64 (Y' (b * 3 + 2)).toInt64
  unfold pb_E
  rw [hx 0 (by decide), hx 1 (by decide), hx 2 (by decide), hy 0 (by decide), hy 1 (by decide), hy 2 (by decide)]
theorem pb_upd_all {P : Int32 → Prop} {f : Nat → Int32} {i j : Nat} {v : Int32} (h1 : P v) (h2 : P (f j)) : P (upd f i v j) := by
  rw [pb_upd_if]
  split
  · exact h1
  · exact h2
theorem pb_grid_in {a : Int32} (h : pb_grid a = true) : pb_in a := by
  simp only [pb_grid, Bool.and_eq_true, decide_eq_true_eq, Int32.le_iff_toInt_le] at h
  exact h
theorem pb_LI_mk {M : Nat → Int32} {n : Nat} (ck cx cy cr : Int32) (h : pb_LI M n) : pb_LI (pb_mk (pb_ok ck cx cy cr) M (4608 + 3 * ck.toNatClampNeg) cx cy cr) n := by
  cases ho : pb_ok ck cx cy cr with
  | false => exact h
  | true =>
    simp only [pb_ok, Bool.and_eq_true, decide_eq_true_eq] at ho
    obtain ⟨-, ⟨gx, gy⟩, r1, r2⟩ := ho
    have e0 : pr0 (pb_mk true M (4608 + 3 * ck.toNatClampNeg) cx cy cr) = upd (pr0 M) (1536 + ck.toNatClampNeg) cx := pb_rel_mk0 true M _ cx cy cr
    have e1 : pr1 (pb_mk true M (4608 + 3 * ck.toNatClampNeg) cx cy cr) = upd (pr1 M) (1536 + ck.toNatClampNeg) cy := pb_rel_mk1 true M _ cx cy cr
    have e2 : pr2 (pb_mk true M (4608 + 3 * ck.toNatClampNeg) cx cy cr) = upd (pr2 M) (1536 + ck.toNatClampNeg) cr := pb_rel_mk2 true M _ cx cy cr
    have hn := h.1
    refine ⟨hn, fun j hj => ?_, fun q hq => ?_⟩
    · obtain ⟨a1, a2, a3⟩ := h.2.1 j hj
      rw [e0, e1, e2]
      rw [Int32.le_iff_toInt_le] at r1 r2
      have t1 : (1 : Int32).toInt = 1 := rfl
      have t2 : (1048576 : Int32).toInt = 1048576 := rfl
      rw [t1] at r1
      rw [t2] at r2
      exact ⟨pb_upd_all (P := pb_in) (pb_grid_in gx) a1, pb_upd_all (P := pb_in) (pb_grid_in gy) a2, pb_upd_all (P := fun v => 0 ≤ v.toInt ∧ v.toInt ≤ 1048576) ⟨by omega, r2⟩ a3⟩
    · rw [e0, e1, pb_ar_congr (X' := pr0 M) (Y' := pr1 M) (b := q) (fun k hk => pk_un (by omega)) (fun k hk => pk_un (by omega))]
      exact h.2.2 q hq
theorem pb_cp_all {P : Int32 → Prop} {f : Nat → Int32} {n j : Nat} (hn : n < 512) (hj : j < 1539) (h : ∀ i, i < 1539 → P (f i)) : P (pb_cp f n j) := by
  by_cases q : n * 3 ≤ j ∧ j < n * 3 + 3
  · obtain ⟨k, rfl⟩ : ∃ k, j = n * 3 + k := ⟨j - n * 3, by omega⟩
    rw [pb_cp_at hn (by omega)]
    exact h _ (by omega)
  · rw [pb_cp_ne (by omega)]
    exact h j hj
theorem pb_LI_add {M : Nat → Int32} {n : Nat} (h : pb_LI M n) : pb_LI (pb_if (pb_add (pr0 M) (pr1 M) n) (pb_cq M n 9) M) (pb_if (pb_add (pr0 M) (pr1 M) n) (n + 1) n) := by
  cases ho : pb_add (pr0 M) (pr1 M) n with
  | false => exact h
  | true =>
    obtain ⟨hn, ha⟩ := pb_add_lt ho
    show pb_LI (pb_cq M n 9) (n + 1)
    refine ⟨hn, fun j hj => ?_, fun q hq => ?_⟩
    · rw [pb_rel_cq0 hn, pb_rel_cq1 hn, pb_rel_cq2 hn]
      exact ⟨pb_cp_all (P := pb_in) hn hj (fun i hi => (h.2.1 i hi).1), pb_cp_all (P := pb_in) hn hj (fun i hi => (h.2.1 i hi).2.1), pb_cp_all (P := fun v => 0 ≤ v.toInt ∧ v.toInt ≤ 1048576) hn hj (fun i hi => (h.2.1 i hi).2.2)⟩
    · rw [pb_rel_cq0 hn, pb_rel_cq1 hn]
      by_cases e : q = n
      · subst e
        rw [pb_ar_congr (X' := pr0 M) (Y' := pr1 M) (b := 512) (fun k hk => pb_cp_at hn hk) (fun k hk => pb_cp_at hn hk)]
        exact ha
      · rw [pb_ar_congr (X' := pr0 M) (Y' := pr1 M) (b := q) (fun k hk => pb_cp_ne (by omega)) (fun k hk => pb_cp_ne (by omega))]
        exact h.2.2 q (by omega)
theorem pb_LI_clear {M : Nat → Int32} {n : Nat} (h : pb_LI M n) : pb_LI M 0 := ⟨Nat.zero_le _, h.2.1, fun q hq => absurd hq (Nat.not_lt_zero q)⟩
theorem pb_lim {i L : Nat} (hi : i ≤ 2565) (hL : L ≤ 2560) : nI L - 5 < nI i ↔ L < i + 5 := by
  rw [Int32.lt_iff_toInt_lt, Int32.toInt_sub, nI_toInt (by omega), nI_toInt (by omega), show (5 : Int32).toInt = 5 from rfl, pb_bm32 (by omega) (by omega)]
  omega
