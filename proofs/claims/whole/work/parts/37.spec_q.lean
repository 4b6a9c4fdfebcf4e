noncomputable def mm_rn (N : Nat → Nat) (sz th : Nat) : Nat → Nat → Int32 → db_X → Nat × db_X
  | 0, u, _, X => (u, X)
  | q + 1, u, a, X => if X 0 0 4 ≤ X 0 0 5 then (u, X) else if a = 0 then mm_rn N sz th q (u + 1) (mm_turn N X sz (th + u)).1 (mm_turn N X sz (th + u)).2 else (u, X)
noncomputable def mm_run (N : Nat → Nat) (X : db_X) (sz th : Nat) (n : Int32) : Int32 × db_X := if n < 0 then (-1, X) else if 2000 < n then (-1, X) else (nI (mm_rn N sz th n.toNatClampNeg 0 0 X).1, (mm_rn N sz th n.toNatClampNeg 0 0 X).2)
def mm_ran (X : db_X) (th : Nat) (k : Int32) : Int32 := if k < 0 then -2 else if 100 ≤ k then -2 else if X 0 0 34 ≤ k then -2 else X 33 0 ((th - 1 - k.toNatClampNeg) % 100)
def mm_remaining (N : Nat → Nat) (X : db_X) (t : Int32) : Int32 := if mm_isP N X t = 0 then 0 else X 8 0 t.toNatClampNeg - X 20 0 t.toNatClampNeg
def mm_deadlineOf (N : Nat → Nat) (X : db_X) (t : Int32) : Int32 := if mm_isP N X t = 0 then -1 else X 19 0 t.toNatClampNeg
def mm_waitsFor (N : Nat → Nat) (X : db_X) (t : Int32) : Int32 := if mm_isP N X t = 0 then -1 else X 21 0 t.toNatClampNeg
noncomputable def mm_eff (N : Nat → Nat) (X : db_X) (t : Int32) : Int32 × db_X := if mm_isP N X t = 0 then (-1, X) else (mm_rk N X 29 0 t.toNatClampNeg, mm_rk N X)
def mm_owner (N : Nat → Nat) (X : db_X) (t : Int32) : Int32 := if bb_isLock N t = 0 then -1 else X 23 0 t.toNatClampNeg
def mm_waiters (N : Nat → Nat) (X : db_X) (t : Int32) : Int32 := if bb_isLock N t = 0 then 0 else db_cnt (fun j => decide (¬ mm_isP N X (nI j) = 0 ∧ X 21 0 j = t)) (N 0)
def mm_missQ (N : Nat → Nat) (X : db_X) (i w : Int32) : Int32 := if i < 0 then -1 else if nI (N 3) ≤ i then -1 else if i < X 0 0 30 then (if w = 0 then X 31 0 i.toNatClampNeg else if w = 1 then X 32 0 i.toNatClampNeg else -1) else -1
def mm_secOf (X : db_X) (sz : Nat) (t : Int32) : Int32 := db_cnt (fun s => decide (X 25 0 s = t)) sz
def mm_task (N : Nat → Nat) (X : db_X) (sz : Nat) (t w : Int32) : Int32 := if mm_isLive N X t = 0 then -1 else if w = 0 then X 7 0 t.toNatClampNeg else if w = 1 then X 8 0 t.toNatClampNeg else if w = 2 then X 9 0 t.toNatClampNeg else if w = 3 then X 10 0 t.toNatClampNeg else if w = 4 then mm_secOf X sz t else if w = 5 then X 11 0 t.toNatClampNeg
  else if w = 6 then X 12 0 t.toNatClampNeg else if w = 7 then X 13 0 t.toNatClampNeg else if w = 8 then X 14 0 t.toNatClampNeg else if w = 9 then X 15 0 t.toNatClampNeg else if w = 10 then X 16 0 t.toNatClampNeg else -1
def mm_count (N : Nat → Nat) (X : db_X) (w : Int32) : Int32 := if w = 0 then X 0 0 5 else if w = 1 then db_cnt (fun j => decide (¬ X 6 0 j = 0)) (N 0) else if w = 2 then db_cnt (fun j => decide (¬ mm_isP N X (nI j) = 0)) (N 0) else if w = 3 then X 0 0 24 else if w = 4 then db_cnt (fun j => decide (¬ X 23 0 j = -1)) (N 1) else if w = 5 then X 0 0 35 else if w = 6 then X 0 0 4 else -1
def mm_wf (X : db_X) (p w d : Int32) : Int32 := if w ≤ 0 then 0 else if d < w then 0 else if p < d then 0 else if X 0 0 4 < p then 0 else 1
def mm_free (N : Nat → Nat) (X : db_X) : Nat := db_fst (fun j => decide (X 6 0 j = 0)) (N 0) 0
def mm_e1 (X : db_X) (i : Nat) (p w d : Int32) : db_X := db_up (db_up (db_up (db_up X 6 0 i 1) 7 0 i p) 8 0 i w) 9 0 i d
def mm_e2 (X : db_X) (i : Nat) : db_X := db_up X 10 0 i (X 0 0 5)
def mm_e3 (X : db_X) (i : Nat) : db_X := db_up (db_up (db_up (db_up (db_up (db_up (db_up (db_up (db_up X 11 0 i 0) 12 0 i 0) 13 0 i 0) 14 0 i 0) 15 0 i 0) 16 0 i 0) 17 0 i 0) 21 0 i (-1)) 22 0 i 0
def mm_enter (X : db_X) (i : Nat) (p w d : Int32) : db_X := mm_e3 (mm_e2 (mm_e1 X i p w d) i) i
def mm_addTask (N : Nat → Nat) (X : db_X) (p w d : Int32) : Int32 × db_X := if mm_wf X p w d = 0 then (-2, X) else if mm_free N X < N 0 then (nI (mm_free N X), mm_enter X (mm_free N X) p w d) else (-1, X)
def mm_wi (b e f t : Int32) : Int32 := if f < b then (if b < f then 0 else if t < e then 0 else 1) else if t ≤ e then 1 else (if b < f then 0 else if t < e then 0 else 1)
def mm_may (X : db_X) (s : Nat) (f t l : Int32) : Int32 := if X 27 0 s + X 28 0 s ≤ f then 1 else if X 27 0 s < t then (if mm_wi (X 27 0 s) (X 27 0 s + X 28 0 s) f t = 0 then 0 else if X 26 0 s = l then 0 else 1) else 1
theorem mm_may01 {X : db_X} {s : Nat} {f t l : Int32} : mm_may X s f t l = 0 ∨ mm_may X s f t l = 1 := db_01 (Or.inr rfl) (db_01 (db_01 (Or.inl rfl) (db_01 (Or.inl rfl) (Or.inr rfl))) (Or.inr rfl))
def mm_asg (N : Nat → Nat) (X : db_X) (t b k l : Int32) : Int32 := if mm_isLive N X t = 0 then 0 else if bb_isLock N k = 0 then 0 else if b < 0 then 0 else if ¬ 1 ≤ l then 0 else if X 8 0 t.toNatClampNeg < l then 0 else if X 8 0 t.toNatClampNeg - l < b then 0 else if X 0 0 24 = nI (N 2) then 0 else if X 17 0 t.toNatClampNeg = 0 then 1 else 0
def mm_asF (X : db_X) (t b k l : Int32) : Nat → Nat → Int32
  | 0, _ => 1
  | q + 1, s => if ¬ X 25 0 s = t then mm_asF X t b k l q (s + 1) else if ¬ mm_may X s b (b + l) k = 0 then mm_asF X t b k l q (s + 1) else 0
def mm_sz1 (X : db_X) : db_X := db_up X 0 0 24 (X 0 0 24 + 1)
def mm_put (X : db_X) (sz : Nat) (t b k l : Int32) : db_X := mm_sz1 (db_up (db_up (db_up (db_up X 25 0 sz t) 26 0 sz k) 27 0 sz b) 28 0 sz l)
def mm_addSec (N : Nat → Nat) (X : db_X) (sz : Nat) (t b k l : Int32) : Int32 × db_X := if mm_asg N X t b k l = 0 then (0, X) else if mm_asF X t b k l sz 0 = 0 then (0, X) else (1, mm_put X sz t b k l)
def mm_cp4 (X : db_X) (v u : Nat) : db_X := db_up X 28 0 v (X 28 0 u)
def mm_cp3 (X : db_X) (v u : Nat) : db_X := db_up X 27 0 v (X 27 0 u)
def mm_cp2 (X : db_X) (v u : Nat) : db_X := db_up X 26 0 v (X 26 0 u)
def mm_cp1 (X : db_X) (v u : Nat) : db_X := db_up X 25 0 v (X 25 0 u)
def mm_cp (X : db_X) (v u : Nat) : db_X := mm_cp4 (mm_cp3 (mm_cp2 (mm_cp1 X v u) v u) v u) v u
def mm_rmF (t : Int32) : Nat → Nat → Nat → db_X → Nat × db_X
  | 0, _, v, X => (v, X)
  | q + 1, u, v, X => if X 25 0 u = t then mm_rmF t q (u + 1) v X else mm_rmF t q (u + 1) (v + 1) (mm_cp X v u)
def mm_rmA (X : db_X) (sz : Nat) (t : Int32) : db_X := db_up (mm_rmF t sz 0 0 X).2 0 0 24 (nI (mm_rmF t sz 0 0 X).1)
noncomputable def mm_rm1 (N : Nat → Nat) (X : db_X) (i : Nat) : db_X := if X 17 0 i = 0 then X else mm_drop N X i
noncomputable def mm_remove (N : Nat → Nat) (X : db_X) (sz : Nat) (t : Int32) : Int32 × db_X := if mm_isLive N X t = 0 then (0, X) else (1, mm_rmA (db_up (mm_rm1 N X t.toNatClampNeg) 6 0 t.toNatClampNeg 0) sz t)
theorem mm_I.cp {N : Nat → Nat} {sz u v : Nat} {X : db_X} (h : mm_I N sz X) (hu : u < sz) : mm_I N sz (mm_cp X v u) := by
  have e : ∀ k' i' f', ¬ k' = 25 → ¬ k' = 26 → ¬ k' = 27 → ¬ k' = 28 → mm_cp X v u k' i' f' = X k' i' f' := by
    intro k' i' f' q1 q2 q3 q4
    simp [mm_cp, mm_cp1, mm_cp2, mm_cp3, mm_cp4, db_up, q1, q2, q3, q4]
  have e26 : ∀ s, mm_cp X v u 26 0 s = if s = v then X 26 0 u else X 26 0 s := by
    intro s
    by_cases q : s = v <;> simp [mm_cp, mm_cp1, mm_cp2, mm_cp3, mm_cp4, db_up, q]
  refine ⟨fun i' hi => by rw [e 21 0 i' (by simp) (by simp) (by simp) (by simp)]; exact h.1 i' hi, fun k' hk => by rw [e 23 0 k' (by simp) (by simp) (by simp) (by simp)]; exact h.2.1 k' hk, by rw [e 0 0 24 (by simp) (by simp) (by simp) (by simp)]; exact h.2.2.1, h.2.2.2.1, fun s hs => ?_⟩
  rw [e26]
  split
  · exact h.2.2.2.2 u hu
  · exact h.2.2.2.2 s hs
theorem mm_I.rmF {N : Nat → Nat} {sz : Nat} {t : Int32} : ∀ (q u v : Nat) (X : db_X), u + q ≤ sz → mm_I N sz X → mm_I N sz (mm_rmF t q u v X).2
  | 0, _, _, _, _, h => h
  | q + 1, u, v, X, hu, h => by
    unfold mm_rmF
    split
    · exact mm_I.rmF q (u + 1) v X (by omega) h
    · exact mm_I.rmF q (u + 1) (v + 1) _ (by omega) (h.cp (by omega))
theorem mm_remove01 {N : Nat → Nat} {X : db_X} {sz : Nat} {t : Int32} : (mm_remove N X sz t).1 = 0 ∨ (mm_remove N X sz t).1 = 1 := by
  unfold mm_remove
  split
  · exact Or.inl rfl
  · exact Or.inr rfl
theorem mm_addSec01 {N : Nat → Nat} {X : db_X} {sz : Nat} {t b k l : Int32} : (mm_addSec N X sz t b k l).1 = 0 ∨ (mm_addSec N X sz t b k l).1 = 1 := by
  unfold mm_addSec
  split
  · exact Or.inl rfl
  · split
    · exact Or.inl rfl
    · exact Or.inr rfl
def mm_sm (X : db_X) (t : Int32) : Nat → Int64
  | 0 => 0
  | k + 1 => if X 6 0 k = 0 then mm_sm X t k else if t < X 9 0 k then mm_sm X t k else mm_sm X t k + (X 8 0 k).toInt64 * (1 + (t - X 9 0 k) / X 7 0 k).toInt64
/-- good so far, from t on, so many more -/
def mm_ad (N : Nat → Nat) (X : db_X) : Nat → Nat → Int32
  | 0, _ => 1
  | q + 1, t => if 0 < lg_cmp (mm_sm X (nI t) (N 0)) (nI t).toInt64 then 0 else mm_ad N X q (t + 1)
theorem mm_ad01 {N : Nat → Nat} {X : db_X} : ∀ q t : Nat, mm_ad N X q t = 0 ∨ mm_ad N X q t = 1
  | 0, _ => Or.inr rfl
  | q + 1, t => by
    unfold mm_ad
    split
    · exact Or.inl rfl
    · exact mm_ad01 q (t + 1)
