def bb_cov (X : db_X) (a b : Nat) : Int32 := if X 12 b 1 < X 12 a 1 then 0 else if X 12 a 4 < X 12 b 4 then 0 else 1
def bb_ov (X : db_X) (a b : Nat) : Int32 := if ¬ X 12 a 0 = X 12 b 0 then 0 else if X 12 b 4 ≤ X 12 a 1 then 0 else if X 12 a 4 ≤ X 12 b 1 then 0 else 1
def bb_nes (X : db_X) (a b : Nat) : Int32 := if ¬ bb_cov X a b = 0 then 1 else if bb_cov X b a = 0 then 0 else 1
def bb_cl (X : db_X) (a b : Nat) : Int32 := if bb_ov X a b = 0 then 0 else if bb_nes X a b = 0 then 1 else if ¬ X 12 a 2 = X 12 b 2 then 0 else 1
def bb_gb (X : db_X) (a b : Nat) : Int32 := if ¬ X 12 a 1 = X 12 b 1 then (if X 12 b 1 ≤ X 12 a 1 then 0 else 1) else (if X 12 a 3 ≤ X 12 b 3 then 0 else 1)
def bb_clF (X : db_X) (b : Nat) : Nat → Nat → Int32
  | 0, _ => 0
  | q + 1, u => if bb_cl X (X 5 0 u).toNatClampNeg b = 0 then bb_clF X b q (u + 1) else 1
theorem bb_clF01 {X : db_X} {b : Nat} : ∀ (q u : Nat), bb_clF X b q u = 0 ∨ bb_clF X b q u = 1
  | 0, _ => Or.inl rfl
  | q + 1, u => by
    unfold bb_clF
    split
    · exact bb_clF01 q (u + 1)
    · exact Or.inr rfl
def bb_insF (b : Nat) : Nat → db_X → Nat × db_X
  | 0, X => (0, X)
  | v + 1, X => if bb_gb X b (X 5 0 v).toNatClampNeg = 0 then (v + 1, X) else bb_insF b v (db_up X 5 0 (v + 1) (X 5 0 v))
def bb_sz1 (X : db_X) : db_X := db_up X 4 0 1 (X 4 0 1 + 1)
def bb_ins2 (b : Nat) (r : Nat × db_X) : db_X := bb_sz1 (db_up r.2 5 0 r.1 (nI b))
def bb_ins (N : Nat → Nat) (X : db_X) (sz b : Nat) : Int32 × db_X := if N 2 ≤ sz then (0, X) else if bb_clF X b sz 0 = 0 then (1, bb_ins2 b (bb_insF b sz X)) else (0, X)
def bb_rmF (t : Int32) : Nat → Nat → Nat → db_X → Nat × db_X
  | 0, _, v, X => (v, X)
  | q + 1, u, v, X => if bb_sec X u 0 = t then bb_rmF t q (u + 1) v X else bb_rmF t q (u + 1) (v + 1) (db_up X 5 0 v (X 5 0 u))
def bb_rmA (X : db_X) (sz : Nat) (t : Int32) : db_X := db_up (bb_rmF t sz 0 0 X).2 4 0 1 (nI (bb_rmF t sz 0 0 X).1)
def bb_remove (N : Nat → Nat) (X : db_X) (sz : Nat) (t : Int32) : Int32 × db_X := if bb_isLive N X t = 0 then (0, X) else (1, bb_rmA (bb_drop N (db_up X 1 t.toNatClampNeg 1 0) t.toNatClampNeg) sz t)
theorem bb_I.up5 {N : Nat → Nat} {cnt sz : Nat} {X : db_X} (h : bb_I N cnt sz X) {j : Nat} {v : Int32} (hv : db_in v cnt) (hl : db_in (X 12 v.toNatClampNeg 2) (N 1)) : bb_I N cnt sz (db_up X 5 0 j v) := by
  have e : ∀ k' i' f', ¬ k' = 5 → db_up X 5 0 j v k' i' f' = X k' i' f' := by
    intro k' i' f' q
    simp [db_up, q]
  refine ⟨fun i' hi => by rw [e 2 i' 4 (by simp)]; exact h.1 i' hi, fun k' hk => by rw [e 3 0 k' (by simp)]; exact h.2.1 k' hk, by rw [e 4 0 1 (by simp)]; exact h.2.2.1, h.2.2.2.1, fun p hp => ?_⟩
  by_cases q : p = j
  · subst q
    have e5 : db_up X 5 0 p v 5 0 p = v := by simp [db_up]
    unfold bb_sec
    rw [e5, e 12 _ 2 (by simp)]
    exact ⟨hv, hl⟩
  · have e5 : db_up X 5 0 j v 5 0 p = X 5 0 p := by simp [db_up, q]
    unfold bb_sec
    rw [e5, e 12 _ 2 (by simp)]
    exact h.2.2.2.2 p hp
theorem bb_I.rmF {N : Nat → Nat} {cnt sz : Nat} {t : Int32} : ∀ (q u v : Nat) (X : db_X), u + q ≤ sz → bb_I N cnt sz X → bb_I N cnt sz (bb_rmF t q u v X).2
  | 0, _, _, _, _, h => h
  | q + 1, u, v, X, hu, h => by
    unfold bb_rmF
    split
    · exact bb_I.rmF q (u + 1) v X (by omega) h
    · exact bb_I.rmF q (u + 1) (v + 1) _ (by omega) (h.up5 (h.2.2.2.2 u (by omega)).1 (h.2.2.2.2 u (by omega)).2)
section DBA
variable {p : Program} {l : Launch} {e : Env} {R : Room} {s : State} {m : MethodId} {args : Array Value} {below : List Frame} {meth : Method} {c : Code} {H : Heap} {locs : List Loc} {cells slots : Nat} {Q : State → Prop}
variable {cc : ByteArray} {pc : Nat} {ls : Array Slot} {rest : List Value} {Γ : db_G} {A : Nat → Prop} {H0 : Heap} {L : Nat → Nat → Nat} {N : Nat → Nat} {cnt : Nat} {X : db_X}
theorem db_ast5 (hexec : p.tables.exec = Jvm.exec) (hb : c.code = cc) (hK : db_K Γ s) (hS : db_S Γ A H0 L (bb_ok (N 0) cnt) (bb_cel Γ N L) X H locs) (j : Nat) {x : Int32} (hi : x = nI j) (hj : j < N 2) (hn : N 2 < 2 ^ 31) (code : Int32) (hcode : db_in code cnt) (hcn : cnt < 2 ^ 31) {a : Nat} (ha : code.toNatClampNeg = a) (hdg : decode cc pc = .ok (.aastore, 1))
    (kk : ∀ (H1 : Heap) (locs1 : List Loc), db_S Γ A H0 L (bb_ok (N 0) cnt) (bb_cel Γ N L) (db_up X 5 0 j code) H1 locs1 → W p l e R s m args below meth c H1 locs1 cells slots Q (F0 m (pc + 1) ls rest)) : W p l e R s m args below meth c H locs cells slots Q (F0 m pc ls (.ref (L 12 a) :: .int x :: .ref (L 5 0) :: rest)) := by
  obtain ⟨h, hR, hW⟩ := hS
  subst ha
  refine db_astR hexec hb hK hW (r := (RX3, TX3, 5)) (ci := 3) 3 rfl rfl (hR.1 5 0 (bb_k 5 rfl)) (hR.1 12 code.toNatClampNeg (bb_kS (hcode.lt hcn))) hi hj hn hdg fun H1 locs1 hW1 => ?_
  refine kk H1 locs1 ⟨_, hR.set (k := 5) (i := 0) (f := j) (v := code) (bb_k 5 rfl) ?_, hW1⟩
  simp only [bb_cel]
  congr 7
  funext q
  by_cases e1 : q = j
  · subst e1
    simp only [db_uf, va_up, if_pos]
    exact bb_rowf hcode hcn
  · simp [db_uf, va_up, e1]
end DBA
