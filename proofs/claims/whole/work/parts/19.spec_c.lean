def bb_tick (N : Nat → Nat) (X : db_X) (sz th : Nat) : Int32 × db_X := if X 0 0 5 ≤ X 0 0 6 then (-2, X) else bb_pass N X sz th
def bb_rn (N : Nat → Nat) (sz : Nat) (b : Int32) (th : Nat) : Nat → Nat → db_X → Nat × db_X
  | 0, u, X => (u, X)
  | q + 1, u, X => if X 0 0 5 ≤ X 0 0 6 then (u, X) else if X 6 0 2 = b then bb_rn N sz b th q (u + 1) (bb_pass N X sz (th + u)).2 else (u, X)
def bb_runC (N : Nat → Nat) (X : db_X) (sz th : Nat) (n : Int32) : Int32 × db_X := if n < 0 then (-1, X) else if 2000 < n then (-1, X) else (nI (bb_rn N sz (X 6 0 2) th n.toNatClampNeg 0 X).1, (bb_rn N sz (X 6 0 2) th n.toNatClampNeg 0 X).2)
def bb_eff (N : Nat → Nat) (X : db_X) (t : Int32) : Int32 × db_X := if bb_hasJob N X t = 0 then (-1, X) else (bb_inh N X 2 t.toNatClampNeg 5, bb_inh N X)
def bb_miss (N : Nat → Nat) (X : db_X) (i w : Int32) : Int32 := if bb_keeps N X i = 0 then -1 else if w = 0 then X 7 0 i.toNatClampNeg else if w = 1 then X 8 0 i.toNatClampNeg else -1
def bb_sizeOf (X : db_X) (sz : Nat) (t : Int32) : Int32 := db_cnt (fun p => decide (bb_sec X p 0 = t)) sz
def bb_task (N : Nat → Nat) (X : db_X) (sz : Nat) (t w : Int32) : Int32 := if bb_isLive N X t = 0 then -1 else if w = 0 then X 1 t.toNatClampNeg 2 else if w = 1 then X 1 t.toNatClampNeg 3 else if w = 2 then X 1 t.toNatClampNeg 4 else if w = 3 then X 1 t.toNatClampNeg 5 else if w = 4 then bb_sizeOf X sz t else if w = 5 then X 1 t.toNatClampNeg 6
  else if w = 6 then X 1 t.toNatClampNeg 7 else if w = 7 then X 1 t.toNatClampNeg 8 else if w = 8 then X 1 t.toNatClampNeg 9 else if w = 9 then X 1 t.toNatClampNeg 10 else if w = 10 then X 1 t.toNatClampNeg 11 else -1
def bb_count (N : Nat → Nat) (X : db_X) (w : Int32) : Int32 := if w = 0 then X 0 0 6 else if w = 1 then bb_liveTasks N X else if w = 2 then bb_pendingJobs N X else if w = 3 then X 4 0 1 else if w = 4 then bb_heldLocks N X else if w = 5 then X 0 0 7 else if w = 6 then X 0 0 5 else -1
def bb_wf (X : db_X) (p w d : Int32) : Int32 := if w ≤ 0 then 0 else if d < w then 0 else if p < d then 0 else if X 0 0 5 < p then 0 else 1
def db_fst (f : Nat → Bool) : Nat → Nat → Nat
  | 0, j => j
  | q + 1, j => if f j = true then j else db_fst f q (j + 1)
def bb_free (N : Nat → Nat) (X : db_X) : Nat := db_fst (fun j => decide (X 1 j 1 = 0)) (N 0) 0
def bb_addTask (N : Nat → Nat) (X : db_X) (p w d : Int32) : Int32 × db_X := if bb_wf X p w d = 0 then (-2, X) else if bb_free N X < N 0 then (nI (bb_free N X), bb_enter X (bb_free N X) p w d (X 0 0 6)) else (-1, X)
theorem db_fst_in {f : Nat → Bool} : ∀ (q j : Nat), j ≤ db_fst f q j ∧ db_fst f q j ≤ j + q
  | 0, j => ⟨Nat.le_refl _, Nat.le_refl _⟩
  | q + 1, j => by
    have h := db_fst_in (f := f) q (j + 1)
    unfold db_fst
    split
    · omega
    · omega
def bb_dem (X : db_X) (t : Int32) : Nat → Int64
  | 0 => 0
  | i + 1 => if X 1 i 1 = 0 then bb_dem X t i else if t < X 1 i 4 then bb_dem X t i else if X 1 i 2 ≤ 0 then bb_dem X t i else bb_dem X t i + (X 1 i 3).toInt64 * (1 + (t - X 1 i 4) / X 1 i 2).toInt64
theorem bb_pass_6 {N : Nat → Nat} {X : db_X} {sz th : Nat} : (bb_pass N X sz th).2 6 0 2 = bb_late N X (N 0) 6 0 2 := by
  have h1 : ∀ (Y : db_X) (r : Int32), bb_pt3 Y r 6 0 2 = Y 6 0 2 := by
    intro Y r
    unfold bb_pt3
    split <;> simp [bb_now, bb_idle, db_up]
  have h2 : ∀ (Y : db_X) (r : Int32), bb_hn Y th r 6 0 2 = Y 6 0 2 := by
    intro Y r
    simp [bb_hn, bb_hn2, db_up]
  simp only [bb_pass, bb_pt2]
  rw [h1, h2, bb_cw_fr _ 6 0 2 rfl, bb_run1_fr 6 0 2 rfl]
  exact bb_rels_fr _ 6 0 2 rfl
theorem bb_pass_9 {N : Nat → Nat} {X : db_X} {sz th : Nat} : (bb_pass N X sz th).2 9 0 1 = X 9 0 1 + 1 := by
  have h1 : ∀ (Y : db_X) (r : Int32), bb_pt3 Y r 9 0 1 = Y 9 0 1 := by
    intro Y r
    unfold bb_pt3
    split <;> simp [bb_now, bb_idle, db_up]
  have h2 : ∀ (Y : db_X) (r : Int32), bb_hn Y th r 9 0 1 = Y 9 0 1 + 1 := by
    intro Y r
    simp [bb_hn, bb_hn2, db_up]
  simp only [bb_pass, bb_pt2]
  rw [h1, h2, bb_cw_fr _ 9 0 1 rfl, bb_run1_fr 9 0 1 rfl, bb_pt1_fr 9 0 1 rfl]
theorem bb_keeps_ix {N : Nat → Nat} {X : db_X} {t : Int32} (hn : N 3 < 2 ^ 31) (h : ¬ bb_keeps N X t = 0) : ∃ j : Nat, j < N 3 ∧ t = nI j := by
  unfold bb_keeps at h
  refine db_ix hn (fun q => h ?_) (fun q => h ?_)
  · simp [q]
  · simp [q]
