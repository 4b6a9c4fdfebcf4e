/-! the reference in numbers -/
def mm_isLive (N : Nat → Nat) (Y : db_X) (t : Int32) : Int32 := if t < 0 then 0 else if nI (N 0) ≤ t then 0 else if Y 6 0 t.toNatClampNeg = 0 then 0 else 1
def mm_isP (N : Nat → Nat) (Y : db_X) (t : Int32) : Int32 := if mm_isLive N Y t = 0 then 0 else if Y 17 0 t.toNatClampNeg = 0 then 0 else 1
theorem mm_isLive_ix {N : Nat → Nat} {X : db_X} {t : Int32} (hn : N 0 < 2 ^ 31) (h : ¬ mm_isLive N X t = 0) : ∃ j : Nat, j < N 0 ∧ t = nI j := by
  unfold mm_isLive at h
  refine db_ix hn (fun q => h ?_) (fun q => h ?_)
  · simp [q]
  · simp [q]
theorem mm_isP_ix {N : Nat → Nat} {X : db_X} {t : Int32} (hn : N 0 < 2 ^ 31) (h : ¬ mm_isP N X t = 0) : ∃ j : Nat, j < N 0 ∧ t = nI j := by
  refine mm_isLive_ix (X := X) hn (fun q => h ?_)
  simp [mm_isP, q]
theorem mm_isP_n {N : Nat → Nat} {X : db_X} {j : Nat} (hn : N 0 < 2 ^ 31) (hj : j < N 0) : mm_isP N X (nI j) = if X 6 0 j = 0 then 0 else if X 17 0 j = 0 then 0 else 1 := by
  unfold mm_isP mm_isLive
  rw [if_neg (nI_pos (by omega)), if_neg (nI_ge hj hn), db_nIc hj hn]
  by_cases q : X 6 0 j = 0
  · simp [q]
  · simp [q]
def mm_nx (N : Nat → Nat) (Y : db_X) (s : Nat) : Int32 := if mm_isP N Y (nI s) = 0 then -1 else if Y 21 0 s = -1 then -1 else Y 23 0 (Y 21 0 s).toNatClampNeg
theorem db_in.mono {x : Int32} {n m : Nat} (h : db_in x n) (hm : n ≤ m) : db_in x m := by
  obtain ⟨j, hj, e⟩ := h
  exact ⟨j, by omega, e⟩
def mm_W (N : Nat → Nat) (Y : db_X) : Prop := ∀ i, i < N 0 → Y 21 0 i = -1 ∨ db_in (Y 21 0 i) 16
def mm_O (N : Nat → Nat) (Y : db_X) : Prop := ∀ k, k < 16 → Y 23 0 k = -1 ∨ db_in (Y 23 0 k) (N 0)
def mm_Sec (N : Nat → Nat) (sz : Nat) (Y : db_X) : Prop := Y 0 0 24 = nI sz ∧ sz ≤ N 2 ∧ ∀ s, s < sz → db_in (Y 26 0 s) (N 1)
def mm_I (N : Nat → Nat) (sz : Nat) (Y : db_X) : Prop := mm_W N Y ∧ mm_O N Y ∧ mm_Sec N sz Y
theorem mm_nx_rg {N : Nat → Nat} {Y : db_X} (hN : bb_N N) (hW : mm_W N Y) (hO : mm_O N Y) : db_rg (N 0) (mm_nx N Y) := by
  intro s hs
  unfold mm_nx
  split
  · exact Or.inl rfl
  · split
    · exact Or.inl rfl
    · rename_i q
      exact hO _ (((hW s hs).resolve_left q).lt (by have := hN.2.2.1; omega))
/-- the effective deadlines are laid down -/
noncomputable def mm_rk (N : Nat → Nat) (Y : db_X) : db_X := fun k i f => if k = 29 ∧ i = 0 ∧ f < N 0 then db_E (N 0) (fun i => Y 19 0 i) (mm_nx N Y) f else Y k i f
def mm_s (N : Nat → Nat) (X Y : db_X) : Prop := ∀ k i f, ¬ (k = 29 ∧ i = 0 ∧ f < N 0) → X k i f = Y k i f
theorem mm_s.rf {N : Nat → Nat} {X : db_X} : mm_s N X X := fun _ _ _ _ => rfl
theorem mm_s.tr {N : Nat → Nat} {X Y Z : db_X} (h : mm_s N X Y) (h2 : mm_s N Y Z) : mm_s N X Z := fun k i f q => (h k i f q).trans (h2 k i f q)
theorem mm_s.up {N : Nat → Nat} {X : db_X} {j : Nat} {v : Int32} (hj : j < N 0) : mm_s N (db_up X 29 0 j v) X := by
  intro k i f q
  simp only [db_up]
  rw [if_neg]
  rintro ⟨rfl, rfl, rfl⟩
  exact q ⟨rfl, rfl, hj⟩
theorem mm_s.isLive {N : Nat → Nat} {X Y : db_X} (h : mm_s N X Y) (t : Int32) : mm_isLive N X t = mm_isLive N Y t := by
  unfold mm_isLive
  rw [h 6 0 _ (by simp)]
theorem mm_s.isP {N : Nat → Nat} {X Y : db_X} (h : mm_s N X Y) (t : Int32) : mm_isP N X t = mm_isP N Y t := by
  unfold mm_isP
  rw [h.isLive, h 17 0 _ (by simp)]
theorem mm_s.nx {N : Nat → Nat} {X Y : db_X} (h : mm_s N X Y) (s : Nat) : mm_nx N X s = mm_nx N Y s := by
  unfold mm_nx
  rw [h.isP, h 21 0 s (by simp), h 23 0 _ (by simp)]
theorem mm_s.I {N : Nat → Nat} {sz : Nat} {X Y : db_X} (h : mm_s N X Y) (hI : mm_I N sz Y) : mm_I N sz X :=
  ⟨fun i hi => by rw [h 21 0 i (by simp)]; exact hI.1 i hi, fun k hk => by rw [h 23 0 k (by simp)]; exact hI.2.1 k hk, by rw [h 0 0 24 (by simp)]; exact hI.2.2.1, hI.2.2.2.1, fun s hs => by rw [h 26 0 s (by simp)]; exact hI.2.2.2.2 s hs⟩
theorem mm_rk_s {N : Nat → Nat} {Y : db_X} : mm_s N (mm_rk N Y) Y := by
  intro k i f q
  unfold mm_rk
  rw [if_neg q]
theorem mm_rk_of {N : Nat → Nat} {sz : Nat} {X Y : db_X} (hN : bb_N N) (hI : mm_I N sz X) (h : mm_s N Y X) (hE : db_isE (N 0) (fun i => X 19 0 i) (mm_nx N X) (fun i => Y 29 0 i)) : Y = mm_rk N X := by
  funext k i f
  unfold mm_rk
  by_cases q : k = 29 ∧ i = 0 ∧ f < N 0
  · rw [if_pos q]
    obtain ⟨rfl, rfl, hf⟩ := q
    exact (db_E_eq (by have := hN.2.1; omega) (mm_nx_rg hN hI.1 hI.2.1) hE hf).symm
  · rw [if_neg q]
    exact h k i f q
def mm_sum (F : Nat → Int32) : Nat → Nat
  | 0 => 0
  | n + 1 => mm_sum F n + ((F n).toInt + 2147483648).toNat
theorem mm_sum_congr {F G : Nat → Int32} : ∀ n, (∀ i, i < n → F i = G i) → mm_sum F n = mm_sum G n
  | 0, _ => rfl
  | n + 1, h => by rw [mm_sum, mm_sum, mm_sum_congr n (fun i hi => h i (by omega)), h n (by omega)]
theorem mm_sum_lt {F G : Nat → Int32} {h : Nat} (hl : F h < G h) : ∀ n, h < n → (∀ i, i < n → i ≠ h → F i = G i) → mm_sum F n < mm_sum G n
  | 0, hh, _ => absurd hh (by omega)
  | n + 1, hh, e => by
    rw [mm_sum, mm_sum]
    by_cases q : h = n
    · subst q
      rw [mm_sum_congr h (fun i hi => e i (by omega) (by omega))]
      have h1 := Int32.lt_iff_toInt_lt.mp hl
      have h2 := Int32.minValue_le_toInt (F h)
      have h3 := Int32.minValue_le_toInt (G h)
      have e4 : Int32.minValue.toInt = -2147483648 := by decide
      omega
    · have h1 := mm_sum_lt hl n (by omega) (fun i hi => e i (by omega))
      rw [e n (by omega) (fun z => q z.symm)]
      omega
def mm_b (x : Int32) : Nat := if x = 0 then 0 else 1
def mm_ahead (N : Nat → Nat) (Y : db_X) (a : Int32) : Int32 := db_ah (fun j => decide (¬ mm_isP N Y (nI j) = 0 ∧ Y 21 0 j = a)) (fun j => Y 29 0 j) (N 0)
theorem mm_ahead_in {N : Nat → Nat} {X : db_X} {a : Int32} (h : ¬ mm_ahead N X a = -1) : db_in (mm_ahead N X a) (N 0) := by
  rcases db_ah_in (sel := fun j => decide (¬ mm_isP N X (nI j) = 0 ∧ X 21 0 j = a)) (ef := fun j => X 29 0 j) (N 0) with q | ⟨j, q1, q2, -⟩
  · exact absurd q h
  · exact ⟨j, q1, q2⟩
def mm_lg3 (X : db_X) (k : Nat) (a : Int32) : db_X := db_up (db_up X 23 0 k a) 21 0 a.toNatClampNeg (-1)
def mm_lg2 (N : Nat → Nat) (X : db_X) (k : Nat) : db_X := if mm_ahead N X (nI k) = -1 then X else mm_lg3 X k (mm_ahead N X (nI k))
noncomputable def mm_lg (N : Nat → Nat) (X : db_X) (k : Nat) : db_X := mm_lg2 N (mm_rk N (db_up X 23 0 k (-1))) k
noncomputable def mm_dropL (N : Nat → Nat) (X : db_X) (i : Nat) : Nat → db_X
  | 0 => X
  | k + 1 => if mm_dropL N X i k 23 0 k = nI i then mm_lg N (mm_dropL N X i k) k else mm_dropL N X i k
def mm_drop0 (X : db_X) (i : Nat) : db_X := db_up (db_up (db_up X 17 0 i 0) 21 0 i (-1)) 22 0 i 0
noncomputable def mm_drop (N : Nat → Nat) (X : db_X) (i : Nat) : db_X := mm_dropL N (mm_drop0 X i) i (N 1)
/-! what stays so -/
theorem mm_I.up {N : Nat → Nat} {sz : Nat} {X : db_X} (h : mm_I N sz X) {k i f : Nat} {v : Int32} (hk : (!(k == 21) && !(k == 23) && !(k == 26) && !(k == 0 && f == 24)) = true) : mm_I N sz (db_up X k i f v) := by
  simp only [Bool.and_eq_true, Bool.not_eq_true', beq_eq_false_iff_ne, ne_eq, Bool.and_eq_false_iff] at hk
  obtain ⟨⟨⟨h1, h3⟩, h4⟩, h5⟩ := hk
  have e : ∀ k' i' f', (k' = 21 ∨ k' = 23 ∨ k' = 26 ∨ (k' = 0 ∧ f' = 24)) → db_up X k i f v k' i' f' = X k' i' f' := by
    intro k' i' f' q
    simp only [db_up]
    rw [if_neg]
    rintro ⟨rfl, rfl, rfl⟩
    rcases q with q | q | q | q
    · exact h1 q
    · exact h3 q
    · exact h4 q
    · rcases h5 with h5 | h5
      · exact h5 q.1
      · exact h5 q.2
  refine ⟨fun i' hi => by rw [e 21 0 i' (by simp)]; exact h.1 i' hi, fun k' hk => by rw [e 23 0 k' (by simp)]; exact h.2.1 k' hk, by rw [e 0 0 24 (by simp)]; exact h.2.2.1, h.2.2.2.1, fun p hp => by rw [e 26 0 p (by simp)]; exact h.2.2.2.2 p hp⟩
theorem mm_I.up21 {N : Nat → Nat} {sz : Nat} {X : db_X} (h : mm_I N sz X) {i : Nat} {v : Int32} (hv : v = -1 ∨ db_in v 16) : mm_I N sz (db_up X 21 0 i v) := by
  have e : ∀ k' i' f', ¬ k' = 21 → db_up X 21 0 i v k' i' f' = X k' i' f' := by
    intro k' i' f' q
    simp [db_up, q]
  refine ⟨fun i' hi => ?_, fun k' hk => by rw [e 23 0 k' (by simp)]; exact h.2.1 k' hk, by rw [e 0 0 24 (by simp)]; exact h.2.2.1, h.2.2.2.1, fun p hp => by rw [e 26 0 p (by simp)]; exact h.2.2.2.2 p hp⟩
  by_cases q : i' = i
  · simp [db_up, q]; exact hv
  · simp [db_up, q]; exact h.1 i' hi
theorem mm_I.up23 {N : Nat → Nat} {sz : Nat} {X : db_X} (h : mm_I N sz X) {k : Nat} {v : Int32} (hv : v = -1 ∨ db_in v (N 0)) : mm_I N sz (db_up X 23 0 k v) := by
  have e : ∀ k' i' f', ¬ k' = 23 → db_up X 23 0 k v k' i' f' = X k' i' f' := by
    intro k' i' f' q
    simp [db_up, q]
  refine ⟨fun i' hi => by rw [e 21 0 i' (by simp)]; exact h.1 i' hi, fun k' hk => ?_, by rw [e 0 0 24 (by simp)]; exact h.2.2.1, h.2.2.2.1, fun p hp => by rw [e 26 0 p (by simp)]; exact h.2.2.2.2 p hp⟩
  by_cases q : k' = k
  · simp [db_up, q]; exact hv
  · simp [db_up, q]; exact h.2.1 k' hk
theorem mm_I.rk {N : Nat → Nat} {sz : Nat} {X : db_X} (h : mm_I N sz X) : mm_I N sz (mm_rk N X) := mm_rk_s.I h
theorem mm_I.lg {N : Nat → Nat} {sz : Nat} {X : db_X} (h : mm_I N sz X) {k : Nat} : mm_I N sz (mm_lg N X k) := by
  unfold mm_lg mm_lg2
  have h1 := (h.up23 (k := k) (v := -1) (Or.inl rfl)).rk
  split
  · exact h1
  · rename_i q
    exact (h1.up23 (Or.inr (mm_ahead_in q))).up21 (Or.inl rfl)
theorem mm_I.dropL {N : Nat → Nat} {sz : Nat} {X : db_X} (h : mm_I N sz X) {i : Nat} : ∀ k : Nat, mm_I N sz (mm_dropL N X i k)
  | 0 => h
  | k + 1 => by
    unfold mm_dropL
    split
    · exact (mm_I.dropL h k).lg
    · exact mm_I.dropL h k
theorem mm_I.drop {N : Nat → Nat} {sz : Nat} {X : db_X} (h : mm_I N sz X) {i : Nat} : mm_I N sz (mm_drop N X i) := ((((h.up rfl).up21 (Or.inl rfl)).up rfl).dropL _)
