def R_law : String := "PieceBoxesLaw"
def lw_P (b : Addr) (xs : List Int32) (args : Array Value) (s : State) : Prop := args = #[.ref b] ∧ s.IntsAt b xs ∧ xs.length ≤ 2560 ∧ (Jvm.Cond.and given_1 narrow_1).before args s = true
def lw_Q (_ : Array Value) (s : State) (o : Outcome) (t : State) : Prop := o = .returned (some (.int 1)) ∧ Framed s o t [] 600000 7302250
def lw_Z (below : List Frame) (a : Array Value) (s : State) : State → Prop := fun t => ∃ o, t.status = .running ∧ Ended t below o ∧ lw_Q a s o t
theorem lw_ret {p : Program} {l : Launch} {e : Env} {s : State} {m : MethodId} {below : List Frame} {meth : Method} {c : Code} {b : Nat} (hx : p.tables.exec = Jvm.exec) (hb : c.code = code) (hr : meth.sig.returnType = ret) (hlocks : meth.locks = false) {pc : Nat} {H : Heap} {ls : Array Slot} (hdg : decode code pc = .ok (.ireturn, 1)) : W p l e room_1 s m #[Value.ref b] below meth c H [] 600000 7302250 (lw_Z below #[Value.ref b] s) (F0 m pc ls [.int 1]) := by
  intro T hT X
  obtain ⟨fs, hret, hrun, hended, hW, hframe⟩ := X.leave (v := some (.int 1)) (hlocks := hlocks) (fun h => by rw [hr] at h; cases h)
  have hmeth' : T.vm.method? m = some meth := X.method'
  refine ⟨T.setFrames fs, ?_, .returned (some (.int 1)), hrun, hended, rfl, ⟨_, rfl⟩, hW, hframe⟩
  jvm_step X.here [X.here.top, hx, hb, hdg, hmeth', hr, ret, narrow_b1]
  (try refine ⟨rfl, ?_⟩); (try refine ⟨rfl, ?_⟩)
  first | (intro acts; rw [hret _ acts rfl rfl rfl]) | rw [hret _ _ rfl rfl rfl]
  exact Steps.refl _
def lw_At (p : Program) (s : State) (m : MethodId) (meth : Method) (c : Code) (b L : Nat) (xs : Nat → Int32) : Prop :=
  p.tables.exec = Jvm.exec ∧ c.code = code ∧ meth.sig.returnType = ret ∧ c.maxLocals = 4 ∧ s.vm.findClass R_law = some m.cls ∧ (∀ w ∈ lw_tbl, w.before #[Value.ref b] s = true) ∧ va_X b L xs s s.heap ∧ b < s.heap.size ∧ meth.locks = false ∧ (Jvm.Cond.and given_1 narrow_1).before #[Value.ref b] s = true

abbrev wL (h0 h1 h2 h3 : Nat) (k1 k2 k3 : ClassId) (g0 g1 : Nat) (r1 : ClassId) (M : Nat → Int32) (n : Nat) : va_W := [(h0, .inr (0, [.ref h1, .ref h2, .ref h3, .int (nI n)])), (h1, .inl (k1, 1539, .inl (pr0 M))), (h2, .inl (k2, 1539, .inl (pr1 M))), (h3, .inl (k3, 1539, .inl (pr2 M))), (g0, .inr (1, [.int (nI 0), .int (nI n), .ref g1])), (g1, .inl (r1, 4617, .inl M))]
abbrev tL (k1 k2 k3 r1 : ClassId) : List (ClassId × FieldType) := [(k1, .int), (k2, .int), (k3, .int), (r1, .int)]
def pb_NX (p : Program) (l : Launch) (e : Env) (s : State) (m : MethodId) (below : List Frame) (meth : Method) (c : Code) (dC : Nat → ClassId) (dI : Nat → Nat → Nat) (b i : Nat) (h0 h1 h2 h3 : Nat) (k1 k2 k3 : ClassId) (g0 g1 : Nat) (r1 : ClassId) : Prop :=
  ∀ (M : Nat → Int32) (n : Nat), pb_LI M n → ∀ (H : Heap) (locs : List Loc), va_P (dC, dI) vwCl (wL h0 h1 h2 h3 k1 k2 k3 g0 g1 r1 M n) H → va_D (fun q : Nat => s.heap.size ≤ q) (wL h0 h1 h2 h3 k1 k2 k3 g0 g1 r1 M n) → va_S (fun q : Nat => s.heap.size ≤ q) s.heap H locs → ∀ ls : Array Slot, lv_has ls 4 [(3, .int (nI (i))), (0, .ref b), (1, .ref h0), (2, .ref g0)] → W p l e room_1 s m #[Value.ref b] below meth c H locs 6 9241 (lw_Z below #[Value.ref b] s) (F0 m 349 ls [])
