/-! what the class's small methods answer, in numbers -/
def db_cnt (f : Nat → Bool) : Nat → Int32
  | 0 => 0
  | n + 1 => if f n = true then db_cnt f n + 1 else db_cnt f n
def bb_isLive (N : Nat → Nat) (X : db_X) (t : Int32) : Int32 := if t < 0 then 0 else if nI (N 0) ≤ t then 0 else if X 1 t.toNatClampNeg 1 = 0 then 0 else 1
def bb_hasJob (N : Nat → Nat) (X : db_X) (t : Int32) : Int32 := if bb_isLive N X t = 0 then 0 else if X 2 t.toNatClampNeg 0 = 0 then 0 else 1
def bb_isLock (N : Nat → Nat) (k : Int32) : Int32 := if k < 0 then 0 else if nI (N 1) ≤ k then 0 else 1
theorem db_01 {c : Prop} [Decidable c] {x y : Int32} (hx : x = 0 ∨ x = 1) (hy : y = 0 ∨ y = 1) : (if c then x else y) = 0 ∨ (if c then x else y) = 1 := by
  split
  · exact hx
  · exact hy
theorem bb_isLive01 {N : Nat → Nat} {X : db_X} {t : Int32} : bb_isLive N X t = 0 ∨ bb_isLive N X t = 1 := by
  exact db_01 (Or.inl rfl) (db_01 (Or.inl rfl) (db_01 (Or.inl rfl) (Or.inr rfl)))
theorem bb_hasJob01 {N : Nat → Nat} {X : db_X} {t : Int32} : bb_hasJob N X t = 0 ∨ bb_hasJob N X t = 1 := by
  exact db_01 (Or.inl rfl) (db_01 (Or.inl rfl) (Or.inr rfl))
theorem bb_isLock01 {N : Nat → Nat} {t : Int32} : bb_isLock N t = 0 ∨ bb_isLock N t = 1 := by
  exact db_01 (Or.inl rfl) (db_01 (Or.inl rfl) (Or.inr rfl))
theorem bb_isLive_ix {N : Nat → Nat} {X : db_X} {t : Int32} (hn : N 0 < 2 ^ 31) (h : ¬ bb_isLive N X t = 0) : ∃ j : Nat, j < N 0 ∧ t = nI j := by
  unfold bb_isLive at h
  refine db_ix hn (fun q => h ?_) (fun q => h ?_)
  · simp [q]
  · simp [q]
theorem bb_hasJob_ix {N : Nat → Nat} {X : db_X} {t : Int32} (hn : N 0 < 2 ^ 31) (h : ¬ bb_hasJob N X t = 0) : ∃ j : Nat, j < N 0 ∧ t = nI j := by
  refine bb_isLive_ix (X := X) hn (fun q => h ?_)
  simp [bb_hasJob, q]
theorem bb_isLock_ix {N : Nat → Nat} {t : Int32} (hn : N 1 < 2 ^ 31) (h : ¬ bb_isLock N t = 0) : ∃ j : Nat, j < N 1 ∧ t = nI j := by
  unfold bb_isLock at h
  refine db_ix hn (fun q => h ?_) (fun q => h ?_)
  · simp [q]
  · simp [q]
def bb_remaining (N : Nat → Nat) (X : db_X) (t : Int32) : Int32 := if bb_hasJob N X t = 0 then 0 else X 1 t.toNatClampNeg 3 - X 2 t.toNatClampNeg 3
def bb_deadlineOf (N : Nat → Nat) (X : db_X) (t : Int32) : Int32 := if bb_hasJob N X t = 0 then -1 else X 2 t.toNatClampNeg 2
def bb_waitsFor (N : Nat → Nat) (X : db_X) (t : Int32) : Int32 := if bb_hasJob N X t = 0 then -1 else X 2 t.toNatClampNeg 4
def bb_owner (N : Nat → Nat) (X : db_X) (t : Int32) : Int32 := if bb_isLock N t = 0 then -1 else X 3 0 t.toNatClampNeg
def bb_waiters (N : Nat → Nat) (X : db_X) (t : Int32) : Int32 := if bb_isLock N t = 0 then 0 else db_cnt (fun j => decide (¬ X 2 j 0 = 0 ∧ X 2 j 4 = t)) (N 0)
def bb_liveTasks (N : Nat → Nat) (X : db_X) : Int32 := db_cnt (fun j => decide (¬ X 1 j 1 = 0)) (N 0)
def bb_pendingJobs (N : Nat → Nat) (X : db_X) : Int32 := db_cnt (fun j => decide (¬ X 2 j 0 = 0)) (N 0)
def bb_heldLocks (N : Nat → Nat) (X : db_X) : Int32 := db_cnt (fun j => decide (¬ X 3 0 j = -1)) (N 1)
/-- who holds the lock that number waits for -/
def bb_hab (X : db_X) (i : Nat) : Int32 := if X 2 i 4 = -1 then -1 else X 3 0 (X 2 i 4).toNatClampNeg
/-- a job waits for a lock or for none; a lock is held by a task or by none -/
def bb_W (N : Nat → Nat) (X : db_X) : Prop := ∀ i, i < N 0 → X 2 i 4 = -1 ∨ ∃ w : Nat, w < N 1 ∧ X 2 i 4 = nI w
def bb_O (N : Nat → Nat) (X : db_X) : Prop := ∀ k, k < N 1 → X 3 0 k = -1 ∨ ∃ i : Nat, i < N 0 ∧ X 3 0 k = nI i
theorem nI_ne1 {j : Nat} (h : j < 2 ^ 31) : ¬ nI j = -1 := by
  intro q
  have h2 := nI_toInt h
  rw [q] at h2
  have : (-1 : Int32).toInt = -1 := by decide
  omega
theorem bb_hab_cases {N : Nat → Nat} {X : db_X} (hN : bb_N N) (hW : bb_W N X) (hO : bb_O N X) {i : Nat} (hi : i < N 0) : bb_hab X i = -1 ∨ ∃ j : Nat, j < N 0 ∧ bb_hab X i = nI j := by
  unfold bb_hab
  rcases hW i hi with h | ⟨w, hw, h⟩
  · simp [h]
  · have h1 : (nI w).toNatClampNeg = w := nI_clamp (by have := hN.2.2.1; omega)
    have h2 : ¬ nI w = -1 := nI_ne1 (by have := hN.2.2.1; omega)
    rw [h, if_neg h2, h1]
    exact hO w hw
