/-! what the class does to its numbers -/
def db_in (x : Int32) (n : Nat) : Prop := ∃ j : Nat, j < n ∧ x = nI j
theorem db_in.eq {x : Int32} {n : Nat} (h : db_in x n) (hn : n < 2 ^ 31) : x = nI x.toNatClampNeg := by
  obtain ⟨j, hj, rfl⟩ := h
  rw [db_nIc hj hn]
theorem db_in.lt {x : Int32} {n : Nat} (h : db_in x n) (hn : n < 2 ^ 31) : x.toNatClampNeg < n := by
  obtain ⟨j, hj, rfl⟩ := h
  rw [db_nIc hj hn]; exact hj
theorem db_in.ne1 {x : Int32} {n : Nat} (h : db_in x n) (hn : n < 2 ^ 31) : ¬ x = -1 := by
  obtain ⟨j, hj, rfl⟩ := h
  exact nI_ne1 (by omega)
theorem db_in.nI {j n : Nat} (h : j < n) : db_in (nI j) n := ⟨j, h, rfl⟩
def bb_begin (X : db_X) (i : Nat) (r d : Int32) : db_X := db_up (db_up (db_up (db_up (db_up (db_up X 2 i 0 1) 2 i 1 r) 2 i 2 d) 2 i 3 0) 2 i 4 (-1)) 2 i 6 0
def bb_enter (X : db_X) (i : Nat) (p w d n : Int32) : db_X := db_up (db_up (db_up (db_up (db_up (db_up (db_up (db_up (db_up (db_up (db_up X 1 i 1 1) 1 i 2 p) 1 i 3 w) 1 i 4 d) 1 i 5 n) 1 i 6 0) 1 i 7 0) 1 i 8 0) 1 i 9 0) 1 i 10 0) 1 i 11 0
def bb_rel2 (X : db_X) (i : Nat) : db_X := db_up X 1 i 6 (X 1 i 6 + 1)
def bb_rel3 (X : db_X) (i : Nat) : db_X := db_up X 1 i 5 (X 1 i 5 + X 1 i 2)
def bb_rel (X : db_X) (i : Nat) : db_X := bb_rel3 (bb_rel2 (bb_begin X i (X 1 i 5) (X 1 i 5 + X 1 i 4)) i) i
def bb_end2 (X : db_X) (i : Nat) : db_X := db_up X 1 i 7 (X 1 i 7 + 1)
def bb_end3 (X : db_X) (i : Nat) (t : Int32) : db_X := db_up X 1 i 11 (if X 1 i 11 < t - X 2 i 1 then t - X 2 i 1 else X 1 i 11)
def bb_endJ (X : db_X) (i : Nat) (t : Int32) : db_X := bb_end3 (bb_end2 (db_up X 2 i 0 0) i) i t
def bb_note2 (X : db_X) (t : Int32) : db_X := db_up X 8 0 (X 6 0 2).toNatClampNeg t
def bb_note3 (X : db_X) : db_X := db_up X 6 0 2 (X 6 0 2 + 1)
def bb_note (N : Nat → Nat) (X : db_X) (n t : Int32) : db_X := if nI (N 3) ≤ X 6 0 2 then bb_note3 X else bb_note3 (bb_note2 (db_up X 7 0 (X 6 0 2).toNatClampNeg n) t)
def bb_keeps (N : Nat → Nat) (X : db_X) (i : Int32) : Int32 := if i < 0 then 0 else if X 6 0 2 ≤ i then 0 else if nI (N 3) ≤ i then 0 else 1
def bb_hn2 (X : db_X) : db_X := db_up X 9 0 1 (X 9 0 1 + 1)
def bb_hn (X : db_X) (th : Nat) (r : Int32) : db_X := bb_hn2 (db_up X 10 0 (th % 100) r)
def bb_back (X : db_X) (th : Nat) (k : Int32) : Int32 := if k < 0 then -2 else if 100 ≤ k then -2 else if k < X 9 0 1 then X 10 0 ((th - 1 - k.toNatClampNeg) % 100) else -2
def bb_in1 (X : db_X) : Nat → db_X
  | 0 => X
  | n + 1 => db_up (bb_in1 X n) 2 n 5 (bb_in1 X n 2 n 2)
def bb_ch1 (due : Int32) (X : db_X) (h : Nat) : db_X := db_up X 2 h 5 (if due < X 2 h 5 then due else X 2 h 5)
/-- up the chain of holders, at most so many steps -/
def bb_ch (due : Int32) : Nat → Int32 → db_X → db_X
  | 0, _, X => X
  | k + 1, h, X => if h = -1 then X else bb_ch due k (bb_hab (bb_ch1 due X h.toNatClampNeg) h.toNatClampNeg) (bb_ch1 due X h.toNatClampNeg)
def bb_in2 (N : Nat → Nat) (X : db_X) : Nat → db_X
  | 0 => X
  | i + 1 => bb_ch (bb_in2 N X i 2 i 2) (N 0) (bb_hab (bb_in2 N X i) i) (bb_in2 N X i)
def bb_inh (N : Nat → Nat) (X : db_X) : db_X := bb_in2 N (bb_in1 X (N 0)) (N 0)
/-- the first of those with the least -/
def db_ah (sel : Nat → Bool) (ef : Nat → Int32) : Nat → Int32
  | 0 => -1
  | n + 1 => if sel n = true then (if db_ah sel ef n = -1 then nI n else if ef n < ef (db_ah sel ef n).toNatClampNeg then nI n else db_ah sel ef n) else db_ah sel ef n
theorem db_ah_in {sel : Nat → Bool} {ef : Nat → Int32} : ∀ n : Nat, db_ah sel ef n = -1 ∨ ∃ j : Nat, j < n ∧ db_ah sel ef n = nI j ∧ sel j = true
  | 0 => Or.inl rfl
  | n + 1 => by
    have h := db_ah_in (sel := sel) (ef := ef) n
    have up : (db_ah sel ef n = -1 ∨ ∃ j : Nat, j < n ∧ db_ah sel ef n = nI j ∧ sel j = true) → (db_ah sel ef n = -1 ∨ ∃ j : Nat, j < n + 1 ∧ db_ah sel ef n = nI j ∧ sel j = true) := by
      rintro (h | ⟨j, h1, h2⟩)
      · exact Or.inl h
      · exact Or.inr ⟨j, by omega, h2⟩
    unfold db_ah
    split
    · rename_i hs
      split
      · exact Or.inr ⟨n, by omega, rfl, hs⟩
      · split
        · exact Or.inr ⟨n, by omega, rfl, hs⟩
        · exact up h
    · exact up h
def bb_ahead (N : Nat → Nat) (X : db_X) (a : Int32) : Int32 := db_ah (fun j => decide (¬ X 2 j 0 = 0 ∧ X 2 j 4 = a)) (fun j => X 2 j 5) (N 0)
theorem bb_ahead_in {N : Nat → Nat} {X : db_X} {a : Int32} (h : ¬ bb_ahead N X a = -1) : db_in (bb_ahead N X a) (N 0) := by
  rcases db_ah_in (sel := fun j => decide (¬ X 2 j 0 = 0 ∧ X 2 j 4 = a)) (ef := fun j => X 2 j 5) (N 0) with q | ⟨j, q1, q2, -⟩
  · exact absurd q h
  · exact ⟨j, q1, q2⟩
def bb_lg3 (X : db_X) (k : Nat) (a : Int32) : db_X := db_up (db_up X 3 0 k a) 2 a.toNatClampNeg 4 (-1)
def bb_lg2 (N : Nat → Nat) (X : db_X) (k : Nat) : db_X := if bb_ahead N X (nI k) = -1 then X else bb_lg3 X k (bb_ahead N X (nI k))
def bb_letGo (N : Nat → Nat) (X : db_X) (k : Nat) : db_X := bb_lg2 N (bb_inh N (db_up X 3 0 k (-1))) k
def bb_dropL (N : Nat → Nat) (X : db_X) (i : Nat) : Nat → db_X
  | 0 => X
  | k + 1 => if bb_dropL N X i k 3 0 k = nI i then bb_letGo N (bb_dropL N X i k) k else bb_dropL N X i k
def bb_drop (N : Nat → Nat) (X : db_X) (i : Nat) : db_X := bb_dropL N (db_up (db_up X 2 i 0 0) 2 i 4 (-1)) i (N 1)
def bb_late2 (X : db_X) (i : Nat) : db_X := db_up X 1 i 8 (X 1 i 8 + 1)
def bb_late1 (N : Nat → Nat) (X : db_X) (i : Nat) : db_X := if X 2 i 0 = 0 then X else if X 2 i 2 = X 0 0 6 then bb_drop N (bb_late2 (bb_note N X (nI i) (X 0 0 6)) i) i else X
def bb_late (N : Nat → Nat) (X : db_X) : Nat → db_X
  | 0 => X
  | i + 1 => bb_late1 N (bb_late N X i) i
def bb_rels1 (X : db_X) (i : Nat) : db_X := if X 1 i 1 = 0 then X else if X 1 i 5 = X 0 0 6 then bb_rel X i else X
def bb_rels (X : db_X) : Nat → db_X
  | 0 => X
  | i + 1 => bb_rels1 (bb_rels X i) i
/-- field f of the section at place p -/
def bb_sec (X : db_X) (p f : Nat) : Int32 := X 12 (X 5 0 p).toNatClampNeg f
def bb_takeF (i : Nat) : Nat → Nat → db_X → Int32 × db_X
  | 0, _, X => (1, X)
  | q + 1, p, X => if ¬ bb_sec X p 0 = nI i then bb_takeF i q (p + 1) X else if ¬ bb_sec X p 1 = X 2 i 3 then bb_takeF i q (p + 1) X
    else if X 3 0 (bb_sec X p 2).toNatClampNeg = -1 then bb_takeF i q (p + 1) (db_up X 3 0 (bb_sec X p 2).toNatClampNeg (nI i))
    else if X 3 0 (bb_sec X p 2).toNatClampNeg = nI i then bb_takeF i q (p + 1) X else (0, db_up X 2 i 4 (bb_sec X p 2))
def bb_take (X : db_X) (sz i : Nat) : Int32 × db_X := bb_takeF i sz 0 X
def bb_workL (N : Nat → Nat) (i : Nat) : Nat → db_X → db_X
  | 0, X => X
  | p + 1, X => if ¬ bb_sec X p 0 = nI i then bb_workL N i p X else if ¬ bb_sec X p 4 = X 2 i 3 then bb_workL N i p X else bb_workL N i p (bb_letGo N X (bb_sec X p 2).toNatClampNeg)
def bb_work2 (X : db_X) (i : Nat) : db_X := if X 2 i 3 = X 1 i 3 then bb_endJ X i (X 0 0 6 + 1) else X
def bb_work (N : Nat → Nat) (X : db_X) (sz i : Nat) : db_X := bb_work2 (bb_workL N i sz (db_up X 2 i 3 (X 2 i 3 + 1))) i
def bb_cw1 (r : Int32) (X : db_X) (i : Nat) : db_X := if ¬ X 2 i 0 = 0 ∧ ¬ X 2 i 4 = -1 then db_up X 1 i 9 (X 1 i 9 + 1) else if ¬ X 2 i 0 = 0 ∧ ¬ X 2 i 6 = 0 ∧ ¬ nI i = r ∧ ¬ r = -1 then db_up X 1 i 10 (X 1 i 10 + 1) else X
def bb_cw2 (r : Int32) (X : db_X) (i : Nat) : db_X := db_up (bb_cw1 r X i) 2 i 6 (if nI i = r then 1 else 0)
def bb_cw (r : Int32) (X : db_X) : Nat → db_X
  | 0 => X
  | i + 1 => bb_cw2 r (bb_cw r X i) i
def bb_runF (N : Nat → Nat) (sz : Nat) : Nat → db_X → Int32 × db_X
  | 0, X => (-1, X)
  | q + 1, X => if bb_ahead N (bb_inh N X) (-1) = -1 then (-1, bb_inh N X) else
    if (bb_take (bb_inh N X) sz (bb_ahead N (bb_inh N X) (-1)).toNatClampNeg).1 = 0 then bb_runF N sz q (bb_take (bb_inh N X) sz (bb_ahead N (bb_inh N X) (-1)).toNatClampNeg).2
    else (bb_ahead N (bb_inh N X) (-1), bb_work N (bb_take (bb_inh N X) sz (bb_ahead N (bb_inh N X) (-1)).toNatClampNeg).2 sz (bb_ahead N (bb_inh N X) (-1)).toNatClampNeg)
def bb_run1 (N : Nat → Nat) (X : db_X) (sz : Nat) : Int32 × db_X := bb_runF N sz (N 0) X
def bb_idle (X : db_X) : db_X := db_up X 0 0 7 (X 0 0 7 + 1)
def bb_now (X : db_X) : db_X := db_up X 0 0 6 (X 0 0 6 + 1)
def bb_pt3 (X : db_X) (r : Int32) : db_X := bb_now (if r = -1 then bb_idle X else X)
def bb_pt2 (N : Nat → Nat) (X : db_X) (th : Nat) (r : Int32) : db_X := bb_pt3 (bb_hn (bb_cw r X (N 0)) th r) r
def bb_pt1 (N : Nat → Nat) (X : db_X) : db_X := bb_rels (bb_late N X (N 0)) (N 0)
def bb_pass (N : Nat → Nat) (X : db_X) (sz th : Nat) : Int32 × db_X := ((bb_run1 N (bb_pt1 N X) sz).1, bb_pt2 N (bb_run1 N (bb_pt1 N X) sz).2 th (bb_run1 N (bb_pt1 N X) sz).1)
/-! what is always so -/
def bb_Sec (N : Nat → Nat) (cnt sz : Nat) (X : db_X) : Prop := X 4 0 1 = nI sz ∧ sz ≤ N 2 ∧ ∀ p, p < sz → db_in (X 5 0 p) cnt ∧ db_in (bb_sec X p 2) (N 1)
def bb_I (N : Nat → Nat) (cnt sz : Nat) (X : db_X) : Prop := bb_W N X ∧ bb_O N X ∧ bb_Sec N cnt sz X
/-- alike but for the inherited deadlines -/
def bb_s5 (X Y : db_X) : Prop := ∀ k i f, ¬ (k = 2 ∧ f = 5) → X k i f = Y k i f
theorem bb_s5.rf {X : db_X} : bb_s5 X X := fun _ _ _ _ => rfl
theorem bb_s5.tr {X Y Z : db_X} (h : bb_s5 X Y) (h2 : bb_s5 Y Z) : bb_s5 X Z := fun k i f q => (h k i f q).trans (h2 k i f q)
theorem bb_s5.up {X : db_X} {i : Nat} {v : Int32} : bb_s5 (db_up X 2 i 5 v) X := by
  intro k j f q
  simp only [db_up]
  rw [if_neg]
  exact fun h => q ⟨h.1, h.2.2⟩
theorem bb_s5.hab {X Y : db_X} (h : bb_s5 X Y) (i : Nat) : bb_hab X i = bb_hab Y i := by
  unfold bb_hab
  rw [h 2 i 4 (by simp), h 3 0 _ (by simp)]
theorem bb_s5.W {N : Nat → Nat} {X Y : db_X} (h : bb_s5 X Y) (hw : bb_W N Y) : bb_W N X := fun i hi => by rw [h 2 i 4 (by simp)]; exact hw i hi
theorem bb_s5.O {N : Nat → Nat} {X Y : db_X} (h : bb_s5 X Y) (hw : bb_O N Y) : bb_O N X := fun i hi => by rw [h 3 0 i (by simp)]; exact hw i hi
theorem bb_s5.sec {X Y : db_X} (h : bb_s5 X Y) (p f : Nat) : bb_sec X p f = bb_sec Y p f := by
  unfold bb_sec
  rw [h 5 0 p (by simp), h 12 _ f (by simp)]
theorem bb_s5.Sec {N : Nat → Nat} {cnt sz : Nat} {X Y : db_X} (h : bb_s5 X Y) (hw : bb_Sec N cnt sz Y) : bb_Sec N cnt sz X :=
  ⟨by rw [h 4 0 1 (by simp)]; exact hw.1, hw.2.1, fun p hp => by rw [h 5 0 p (by simp), h.sec]; exact hw.2.2 p hp⟩
theorem bb_s5.I {N : Nat → Nat} {cnt sz : Nat} {X Y : db_X} (h : bb_s5 X Y) (hw : bb_I N cnt sz Y) : bb_I N cnt sz X := ⟨h.W hw.1, h.O hw.2.1, h.Sec hw.2.2⟩
theorem bb_in1_s5 {X : db_X} : ∀ n, bb_s5 (bb_in1 X n) X
  | 0 => bb_s5.rf
  | n + 1 => bb_s5.up.tr (bb_in1_s5 n)
theorem bb_ch1_s5 {due : Int32} {X : db_X} {h : Nat} : bb_s5 (bb_ch1 due X h) X := bb_s5.up
theorem bb_ch_s5 {due : Int32} : ∀ (k : Nat) (h : Int32) (X : db_X), bb_s5 (bb_ch due k h X) X
  | 0, _, _ => bb_s5.rf
  | k + 1, h, X => by
    unfold bb_ch
    split
    · exact bb_s5.rf
    · exact (bb_ch_s5 k _ _).tr bb_ch1_s5
theorem bb_in2_s5 {N : Nat → Nat} {X : db_X} : ∀ n, bb_s5 (bb_in2 N X n) X
  | 0 => bb_s5.rf
  | n + 1 => (bb_ch_s5 _ _ _).tr (bb_in2_s5 n)
theorem bb_inh_s5 {N : Nat → Nat} {X : db_X} : bb_s5 (bb_inh N X) X := (bb_in2_s5 _).tr (bb_in1_s5 _)
