/-! the world of the class: kinds 0 bench, 1 task i, 2 job i, 3 holders, 4 section list, 5 rows, 6 miss log, 7 numbers, 8 times, 9 history, 10 runners, 11 tasks, 12 section j (by the order of their making); N: 0 tasks, 1 locks, 2 sections, 3 log -/
def bb_cel (Γ : db_G) (N : Nat → Nat) (L : Nat → Nat → Nat) (k i : Nat) (x : Nat → Int32) : va_E := match k with
  | 0 => .inr (6, [.ref (L 11 0), .ref (L 3 0), .ref (L 4 0), .ref (L 6 0), .ref (L 9 0), .int (x 5), .int (x 6), .int (x 7)])
  | 1 => .inr (5, [.ref (L 2 i), .int (x 1), .int (x 2), .int (x 3), .int (x 4), .int (x 5), .int (x 6), .int (x 7), .int (x 8), .int (x 9), .int (x 10), .int (x 11)])
  | 2 => .inr (0, [.int (x 0), .int (x 1), .int (x 2), .int (x 3), .int (x 4), .int (x 5), .int (x 6)])
  | 3 => .inl (Γ.2 0, N 1, .inl x)
  | 4 => .inr (4, [.ref (L 5 0), .int (x 1)])
  | 5 => .inl (Γ.2 3, N 2, .inr (.inr (.inr (.inr (fun p => if x p < 0 then none else some (L 12 (x p).toNatClampNeg))))))
  | 6 => .inr (1, [.ref (L 7 0), .ref (L 8 0), .int (x 2)])
  | 7 => .inl (Γ.2 0, N 3, .inl x)
  | 8 => .inl (Γ.2 0, N 3, .inl x)
  | 9 => .inr (2, [.ref (L 10 0), .int (x 1)])
  | 10 => .inl (Γ.2 0, 100, .inl x)
  | 11 => .inl (Γ.2 2, N 0, .inr (.inr (.inr (.inr (fun p => some (L 1 p))))))
  | _ => .inr (3, [.int (x 0), .int (x 1), .int (x 2), .int (x 3), .int (x 4)])
def bb_ok (n cnt : Nat) (k i : Nat) : Prop := ((k = 1 ∨ k = 2) ∧ i < n) ∨ (k = 12 ∧ i < cnt) ∨ (k ≤ 11 ∧ k ≠ 1 ∧ k ≠ 2 ∧ i = 0)
theorem bb_k {n cnt : Nat} (k : Nat) (h : (decide (k ≤ 11) && decide (k ≠ 1) && decide (k ≠ 2)) = true) : bb_ok n cnt k 0 := by
  simp only [Bool.and_eq_true, decide_eq_true_eq] at h
  exact Or.inr (Or.inr ⟨h.1.1, h.1.2, h.2, rfl⟩)
theorem bb_kT {n cnt i : Nat} (h : i < n) : bb_ok n cnt 1 i := Or.inl ⟨Or.inl rfl, h⟩
theorem bb_kJ {n cnt i : Nat} (h : i < n) : bb_ok n cnt 2 i := Or.inl ⟨Or.inr rfl, h⟩
theorem bb_kS {n cnt i : Nat} (h : i < cnt) : bb_ok n cnt 12 i := Or.inr (Or.inl ⟨rfl, h⟩)
def bb_N (N : Nat → Nat) : Prop := 1 ≤ N 0 ∧ N 0 ≤ 40 ∧ N 1 ≤ 16 ∧ N 2 ≤ 120 ∧ N 3 ≤ 100
def db_rm (f l : Nat) : Room := { frames := f, cells := 0, slots := 0, locals := l }
/-! a method's entry, its end as a rule -/
theorem db_introI {l : Launch} {Γ : db_G} {y : MethodName} {cc : ByteArray} {maxL f l1 : Nat} {av : List Value} {L : Nat → Nat → Nat} {ok : Nat → Nat → Prop} {cel : Nat → Nat → (Nat → Int32) → va_E} {X X' : db_X} {r : Int32} (hy : plainName y.cls = true) (hlen : (lg_sl av).length ≤ maxL)
    (body : ∀ (p : Program) (e : Env) (s : State) (m : MethodId) (args : Array Value) (below : List Frame) (meth : Method) (c : Code) (A : Nat → Prop) (Q : State → Prop) (ls : Array Slot), db_Cx p s m args meth c Γ y.cls cc maxL (some .int) → db_S Γ A s.heap L ok cel X s.heap [] → lv_has ls maxL (lv_args 0 av) →
      (∀ (H : Heap) (locs : List Loc) (pc : Nat) (ls : Array Slot) (v : Int32) (X1 : db_X), db_S Γ A s.heap L ok cel X1 H locs → v = r → X1 = X' → decode cc pc = .ok (.ireturn, 1) → W p l e (db_rm f l1) s m args below meth c H locs 0 0 Q (F0 m pc ls [.int v])) →
      W p l e (db_rm f l1) s m args below meth c s.heap [] 0 0 Q (F0 m 0 ls [])) : db_C l Γ y cc maxL (some .int) (db_rm f l1) av L ok cel X (some (.int r)) X' :=
  db_intro hy hlen fun p e s m below meth c A ls hC hS hl => body p e s m av.toArray below meth c A _ ls hC hS hl fun _ _ _ _ _ _ hS1 hv hX hd => db_iret hC.1 hC.2.1 hC.2.2.2.1 hC.2.2.2.2.1 hS1 hv hX hd
theorem db_introZ {l : Launch} {Γ : db_G} {y : MethodName} {cc : ByteArray} {maxL f l1 : Nat} {av : List Value} {L : Nat → Nat → Nat} {ok : Nat → Nat → Prop} {cel : Nat → Nat → (Nat → Int32) → va_E} {X X' : db_X} {r : Int32} (hy : plainName y.cls = true) (hlen : (lg_sl av).length ≤ maxL) (hr01 : r = 0 ∨ r = 1)
    (body : ∀ (p : Program) (e : Env) (s : State) (m : MethodId) (args : Array Value) (below : List Frame) (meth : Method) (c : Code) (A : Nat → Prop) (Q : State → Prop) (ls : Array Slot), db_Cx p s m args meth c Γ y.cls cc maxL (some .boolean) → db_S Γ A s.heap L ok cel X s.heap [] → lv_has ls maxL (lv_args 0 av) →
      (∀ (H : Heap) (locs : List Loc) (pc : Nat) (ls : Array Slot) (v : Int32) (X1 : db_X), db_S Γ A s.heap L ok cel X1 H locs → v = r → X1 = X' → decode cc pc = .ok (.ireturn, 1) → W p l e (db_rm f l1) s m args below meth c H locs 0 0 Q (F0 m pc ls [.int v])) →
      W p l e (db_rm f l1) s m args below meth c s.heap [] 0 0 Q (F0 m 0 ls [])) : db_C l Γ y cc maxL (some .boolean) (db_rm f l1) av L ok cel X (some (.int r)) X' :=
  db_intro hy hlen fun p e s m below meth c A ls hC hS hl => body p e s m av.toArray below meth c A _ ls hC hS hl fun _ _ _ _ _ _ hS1 hv hX hd => db_zret hC.1 hC.2.1 hC.2.2.2.1 hC.2.2.2.2.1 hS1 (by rw [hv]; exact hr01) hv hX hd
theorem db_introV {l : Launch} {Γ : db_G} {y : MethodName} {cc : ByteArray} {maxL f l1 : Nat} {av : List Value} {L : Nat → Nat → Nat} {ok : Nat → Nat → Prop} {cel : Nat → Nat → (Nat → Int32) → va_E} {X X' : db_X} (hy : plainName y.cls = true) (hlen : (lg_sl av).length ≤ maxL)
    (body : ∀ (p : Program) (e : Env) (s : State) (m : MethodId) (args : Array Value) (below : List Frame) (meth : Method) (c : Code) (A : Nat → Prop) (Q : State → Prop) (ls : Array Slot), db_Cx p s m args meth c Γ y.cls cc maxL none → db_S Γ A s.heap L ok cel X s.heap [] → lv_has ls maxL (lv_args 0 av) →
      (∀ (H : Heap) (locs : List Loc) (pc : Nat) (ls : Array Slot) (X1 : db_X), db_S Γ A s.heap L ok cel X1 H locs → X1 = X' → decode cc pc = .ok (.return_, 1) → W p l e (db_rm f l1) s m args below meth c H locs 0 0 Q (F0 m pc ls [])) →
      W p l e (db_rm f l1) s m args below meth c s.heap [] 0 0 Q (F0 m 0 ls [])) : db_C l Γ y cc maxL none (db_rm f l1) av L ok cel X none X' :=
  db_intro hy hlen fun p e s m below meth c A ls hC hS hl => body p e s m av.toArray below meth c A _ ls hC hS hl fun _ _ _ _ _ hS1 hX hd => db_vret hC.1 hC.2.1 hC.2.2.2.1 hC.2.2.2.2.1 hS1 hX hd
theorem db_introL {l : Launch} {Γ : db_G} {y : MethodName} {cc : ByteArray} {maxL f l1 : Nat} {av : List Value} {L : Nat → Nat → Nat} {ok : Nat → Nat → Prop} {cel : Nat → Nat → (Nat → Int32) → va_E} {X X' : db_X} {r : Int64} (hy : plainName y.cls = true) (hlen : (lg_sl av).length ≤ maxL)
    (body : ∀ (p : Program) (e : Env) (s : State) (m : MethodId) (args : Array Value) (below : List Frame) (meth : Method) (c : Code) (A : Nat → Prop) (Q : State → Prop) (ls : Array Slot), db_Cx p s m args meth c Γ y.cls cc maxL (some .long) → db_S Γ A s.heap L ok cel X s.heap [] → lv_has ls maxL (lv_args 0 av) →
      (∀ (H : Heap) (locs : List Loc) (pc : Nat) (ls : Array Slot) (v : Int64) (X1 : db_X), db_S Γ A s.heap L ok cel X1 H locs → v = r → X1 = X' → decode cc pc = .ok (.lreturn, 1) → W p l e (db_rm f l1) s m args below meth c H locs 0 0 Q (F0 m pc ls [.long v])) →
      W p l e (db_rm f l1) s m args below meth c s.heap [] 0 0 Q (F0 m 0 ls [])) : db_C l Γ y cc maxL (some .long) (db_rm f l1) av L ok cel X (some (.long r)) X' :=
  db_intro hy hlen fun p e s m below meth c A ls hC hS hl => body p e s m av.toArray below meth c A _ ls hC hS hl fun _ _ _ _ _ _ hS1 hv hX hd => db_lret hC.1 hC.2.1 hC.2.2.2.1 hC.2.2.2.2.1 hS1 hv hX hd
/-! the world of the reference: kind 0 the object, 6 .. 33 its arrays -/
def mm_cel (Γ : db_G) (N : Nat → Nat) (L : Nat → Nat → Nat) (k _i : Nat) (x : Nat → Int32) : va_E := match k with
  | 0 => .inr (7, [.int (nI (N 0)), .int (nI (N 1)), .int (nI (N 2)), .int (nI (N 3)), .int (x 4), .int (x 5), .ref (L 6 0), .ref (L 7 0), .ref (L 8 0), .ref (L 9 0), .ref (L 10 0), .ref (L 11 0), .ref (L 12 0), .ref (L 13 0), .ref (L 14 0), .ref (L 15 0), .ref (L 16 0), .ref (L 17 0), .ref (L 18 0), .ref (L 19 0), .ref (L 20 0), .ref (L 21 0), .ref (L 22 0), .ref (L 23 0), .int (x 24), .ref (L 25 0), .ref (L 26 0), .ref (L 27 0), .ref (L 28 0), .ref (L 29 0), .int (x 30), .ref (L 31 0), .ref (L 32 0), .ref (L 33 0), .int (x 34), .int (x 35)])
  | 6 => .inl (Γ.2 1, 40, .inl x)
  | 17 => .inl (Γ.2 1, 40, .inl x)
  | 22 => .inl (Γ.2 1, 40, .inl x)
  | 23 => .inl (Γ.2 0, 16, .inl x)
  | 25 => .inl (Γ.2 0, 120, .inl x)
  | 26 => .inl (Γ.2 0, 120, .inl x)
  | 27 => .inl (Γ.2 0, 120, .inl x)
  | 28 => .inl (Γ.2 0, 120, .inl x)
  | 31 => .inl (Γ.2 0, 100, .inl x)
  | 32 => .inl (Γ.2 0, 100, .inl x)
  | 33 => .inl (Γ.2 0, 100, .inl x)
  | _ => .inl (Γ.2 0, 40, .inl x)
def mm_ok (k i : Nat) : Prop := i = 0 ∧ (k = 0 ∨ (6 ≤ k ∧ k ≤ 33 ∧ k ≠ 24 ∧ k ≠ 30))
theorem mm_k (k : Nat) (h : (decide (k = 0) || (decide (6 ≤ k) && decide (k ≤ 33) && decide (k ≠ 24) && decide (k ≠ 30))) = true) : mm_ok k 0 := by
  simp only [Bool.or_eq_true, Bool.and_eq_true, decide_eq_true_eq] at h
  rcases h with h | h
  · exact ⟨rfl, Or.inl h⟩
  · exact ⟨rfl, Or.inr ⟨h.1.1.1, h.1.1.2, h.1.2, h.2⟩⟩
