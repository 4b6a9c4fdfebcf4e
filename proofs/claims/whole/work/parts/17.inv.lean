/-! what stays so -/
theorem bb_I.up {N : Nat → Nat} {cnt sz : Nat} {X : db_X} (h : bb_I N cnt sz X) {k i f : Nat} {v : Int32} (hk : (!(k == 2 && f == 4) && !(k == 3) && !(k == 4) && !(k == 5) && !(k == 12)) = true) : bb_I N cnt sz (db_up X k i f v) := by
  simp only [Bool.and_eq_true, Bool.not_eq_true', beq_eq_false_iff_ne, ne_eq, Bool.and_eq_false_iff] at hk
  obtain ⟨⟨⟨⟨h1, h3⟩, h4⟩, h5⟩, h12⟩ := hk
  have e : ∀ k' i' f', (k' = 3 ∨ k' = 4 ∨ k' = 5 ∨ k' = 12 ∨ (k' = 2 ∧ f' = 4)) → db_up X k i f v k' i' f' = X k' i' f' := by
    intro k' i' f' q
    simp only [db_up]
    rw [if_neg]
    rintro ⟨rfl, rfl, rfl⟩
    rcases q with q | q | q | q | q
    · exact h3 q
    · exact h4 q
    · exact h5 q
    · exact h12 q
    · rcases h1 with h1 | h1
      · exact h1 q.1
      · exact h1 q.2
  have es : ∀ p f', bb_sec (db_up X k i f v) p f' = bb_sec X p f' := by
    intro p f'
    unfold bb_sec
    rw [e 5 0 p (by simp), e 12 _ f' (by simp)]
  refine ⟨fun i' hi => by rw [e 2 i' 4 (by simp)]; exact h.1 i' hi, fun k' hk => by rw [e 3 0 k' (by simp)]; exact h.2.1 k' hk, by rw [e 4 0 1 (by simp)]; exact h.2.2.1, h.2.2.2.1, fun p hp => by rw [e 5 0 p (by simp), es]; exact h.2.2.2.2 p hp⟩
theorem bb_I.up4 {N : Nat → Nat} {cnt sz : Nat} {X : db_X} (h : bb_I N cnt sz X) {i : Nat} {v : Int32} (hv : v = -1 ∨ db_in v (N 1)) : bb_I N cnt sz (db_up X 2 i 4 v) := by
  have e : ∀ k' i' f', ¬ k' = 2 → db_up X 2 i 4 v k' i' f' = X k' i' f' := by
    intro k' i' f' q
    simp [db_up, q]
  have es : ∀ p f', bb_sec (db_up X 2 i 4 v) p f' = bb_sec X p f' := by
    intro p f'
    unfold bb_sec
    rw [e 5 0 p (by simp), e 12 _ f' (by simp)]
  refine ⟨fun i' hi => ?_, fun k' hk => by rw [e 3 0 k' (by simp)]; exact h.2.1 k' hk, by rw [e 4 0 1 (by simp)]; exact h.2.2.1, h.2.2.2.1, fun p hp => by rw [e 5 0 p (by simp), es]; exact h.2.2.2.2 p hp⟩
  by_cases q : i' = i
  · simp [db_up, q]; exact hv
  · simp [db_up, q]; exact h.1 i' hi
theorem bb_I.up3 {N : Nat → Nat} {cnt sz : Nat} {X : db_X} (h : bb_I N cnt sz X) {k : Nat} {v : Int32} (hv : v = -1 ∨ db_in v (N 0)) : bb_I N cnt sz (db_up X 3 0 k v) := by
  have e : ∀ k' i' f', ¬ k' = 3 → db_up X 3 0 k v k' i' f' = X k' i' f' := by
    intro k' i' f' q
    simp [db_up, q]
  have es : ∀ p f', bb_sec (db_up X 3 0 k v) p f' = bb_sec X p f' := by
    intro p f'
    unfold bb_sec
    rw [e 5 0 p (by simp), e 12 _ f' (by simp)]
  refine ⟨fun i' hi => by rw [e 2 i' 4 (by simp)]; exact h.1 i' hi, fun k' hk => ?_, by rw [e 4 0 1 (by simp)]; exact h.2.2.1, h.2.2.2.1, fun p hp => by rw [e 5 0 p (by simp), es]; exact h.2.2.2.2 p hp⟩
  by_cases q : k' = k
  · simp [db_up, q]; exact hv
  · simp [db_up, q]; exact h.2.1 k' hk
theorem bb_I.inh {N : Nat → Nat} {cnt sz : Nat} {X : db_X} (h : bb_I N cnt sz X) : bb_I N cnt sz (bb_inh N X) := bb_inh_s5.I h
theorem bb_I.lg3 {N : Nat → Nat} {cnt sz : Nat} {X : db_X} (h : bb_I N cnt sz X) {k : Nat} {a : Int32} (ha : db_in a (N 0)) : bb_I N cnt sz (bb_lg3 X k a) := (h.up3 (Or.inr ha)).up4 (Or.inl rfl)
theorem bb_I.letGo {N : Nat → Nat} {cnt sz : Nat} {X : db_X} (h : bb_I N cnt sz X) {k : Nat} : bb_I N cnt sz (bb_letGo N X k) := by
  unfold bb_letGo bb_lg2
  have h1 := (h.up3 (k := k) (v := -1) (Or.inl rfl)).inh
  split
  · exact h1
  · rename_i q
    exact h1.lg3 (bb_ahead_in q)
theorem bb_I.dropL {N : Nat → Nat} {cnt sz : Nat} {X : db_X} (h : bb_I N cnt sz X) {i : Nat} : ∀ k : Nat, bb_I N cnt sz (bb_dropL N X i k)
  | 0 => h
  | k + 1 => by
    unfold bb_dropL
    split
    · exact (bb_I.dropL h k).letGo
    · exact bb_I.dropL h k
theorem bb_I.drop {N : Nat → Nat} {cnt sz : Nat} {X : db_X} (h : bb_I N cnt sz X) {i : Nat} : bb_I N cnt sz (bb_drop N X i) := ((h.up rfl).up4 (Or.inl rfl)).dropL _
theorem bb_I.note {N : Nat → Nat} {cnt sz : Nat} {X : db_X} (h : bb_I N cnt sz X) {n t : Int32} : bb_I N cnt sz (bb_note N X n t) := by
  unfold bb_note
  split
  · exact h.up rfl
  · exact ((h.up rfl).up rfl).up rfl
theorem bb_I.late1 {N : Nat → Nat} {cnt sz : Nat} {X : db_X} (h : bb_I N cnt sz X) {i : Nat} : bb_I N cnt sz (bb_late1 N X i) := by
  unfold bb_late1
  split
  · exact h
  · split
    · exact (h.note.up rfl).drop
    · exact h
theorem bb_I.late {N : Nat → Nat} {cnt sz : Nat} {X : db_X} (h : bb_I N cnt sz X) : ∀ i : Nat, bb_I N cnt sz (bb_late N X i)
  | 0 => h
  | i + 1 => (bb_I.late h i).late1
theorem bb_I.begin {N : Nat → Nat} {cnt sz : Nat} {X : db_X} (h : bb_I N cnt sz X) {i : Nat} {r d : Int32} : bb_I N cnt sz (bb_begin X i r d) := (((((h.up rfl).up rfl).up rfl).up rfl).up4 (Or.inl rfl)).up rfl
theorem bb_I.rel {N : Nat → Nat} {cnt sz : Nat} {X : db_X} (h : bb_I N cnt sz X) {i : Nat} : bb_I N cnt sz (bb_rel X i) := (h.begin.up rfl).up rfl
theorem bb_I.rels {N : Nat → Nat} {cnt sz : Nat} {X : db_X} (h : bb_I N cnt sz X) : ∀ i : Nat, bb_I N cnt sz (bb_rels X i)
  | 0 => h
  | i + 1 => by
    have h1 := bb_I.rels h i
    unfold bb_rels bb_rels1
    split
    · exact h1
    · split
      · exact h1.rel
      · exact h1
theorem bb_I.takeF {N : Nat → Nat} {cnt sz i : Nat} (hi : i < N 0) : ∀ (q p : Nat) (X : db_X), p + q ≤ sz → bb_I N cnt sz X → bb_I N cnt sz (bb_takeF i q p X).2
  | 0, _, _, _, h => h
  | q + 1, p, X, hp, h => by
    unfold bb_takeF
    split
    · exact bb_I.takeF hi q (p + 1) X (by omega) h
    · split
      · exact bb_I.takeF hi q (p + 1) X (by omega) h
      · split
        · exact bb_I.takeF hi q (p + 1) _ (by omega) (h.up3 (Or.inr ⟨i, hi, rfl⟩))
        · split
          · exact bb_I.takeF hi q (p + 1) X (by omega) h
          · exact h.up4 (Or.inr (h.2.2.2.2 p (by omega)).2)
theorem bb_I.workL {N : Nat → Nat} {cnt sz i : Nat} : ∀ (p : Nat) (X : db_X), bb_I N cnt sz X → bb_I N cnt sz (bb_workL N i p X)
  | 0, _, h => h
  | p + 1, X, h => by
    unfold bb_workL
    split
    · exact bb_I.workL p X h
    · split
      · exact bb_I.workL p X h
      · exact bb_I.workL p _ h.letGo
theorem bb_I.endJ {N : Nat → Nat} {cnt sz : Nat} {X : db_X} (h : bb_I N cnt sz X) {i : Nat} {t : Int32} : bb_I N cnt sz (bb_endJ X i t) := ((h.up rfl).up rfl).up rfl
theorem bb_I.work {N : Nat → Nat} {cnt sz i : Nat} {X : db_X} (h : bb_I N cnt sz X) : bb_I N cnt sz (bb_work N X sz i) := by
  unfold bb_work bb_work2
  have h1 : bb_I N cnt sz (bb_workL N i sz (db_up X 2 i 3 (X 2 i 3 + 1))) := bb_I.workL _ _ (h.up rfl)
  split
  · exact h1.endJ
  · exact h1
theorem bb_I.runF {N : Nat → Nat} {cnt sz : Nat} (hN : bb_N N) : ∀ (q : Nat) (X : db_X), bb_I N cnt sz X → bb_I N cnt sz (bb_runF N sz q X).2
  | 0, _, h => h
  | q + 1, X, h => by
    unfold bb_runF
    split
    · exact h.inh
    · rename_i a
      have hi := (bb_ahead_in a).lt (by have := hN.2.1; omega)
      have h1 := bb_I.takeF hi sz 0 _ (by omega) h.inh
      split
      · exact bb_I.runF hN q _ h1
      · exact bb_I.work h1
theorem bb_I.cw1 {N : Nat → Nat} {cnt sz i : Nat} {X : db_X} (h : bb_I N cnt sz X) {r : Int32} : bb_I N cnt sz (bb_cw1 r X i) := by
  unfold bb_cw1
  split
  · exact h.up rfl
  · split
    · exact h.up rfl
    · exact h
theorem bb_I.cw {N : Nat → Nat} {cnt sz : Nat} {X : db_X} (h : bb_I N cnt sz X) {r : Int32} : ∀ i : Nat, bb_I N cnt sz (bb_cw r X i)
  | 0 => h
  | i + 1 => (bb_I.cw h i).cw1.up rfl
/-- a change within a set of (kind, field) -/
def bb_fr (S : Nat → Nat → Bool) (X Y : db_X) : Prop := ∀ k i f, S k f = false → X k i f = Y k i f
theorem bb_fr.rf {S : Nat → Nat → Bool} {X : db_X} : bb_fr S X X := fun _ _ _ _ => rfl
theorem bb_fr.tr {S : Nat → Nat → Bool} {X Y Z : db_X} (h : bb_fr S X Y) (h2 : bb_fr S Y Z) : bb_fr S X Z := fun k i f q => (h k i f q).trans (h2 k i f q)
theorem bb_fr.mono {S S' : Nat → Nat → Bool} {X Y : db_X} (h : bb_fr S X Y) (hs : ∀ k f, S' k f = false → S k f = false) : bb_fr S' X Y := fun k i f q => h k i f (hs k f q)
theorem bb_fr.up {S : Nat → Nat → Bool} {X : db_X} {k i f : Nat} {v : Int32} (h : S k f = true) : bb_fr S (db_up X k i f v) X := by
  intro k' i' f' q
  simp only [db_up]
  rw [if_neg]
  rintro ⟨rfl, rfl, rfl⟩
  rw [h] at q; cases q
def bb_S5 (k f : Nat) : Bool := k == 2 && f == 5
/-- letting go, dropping, taking -/
def bb_SG (k f : Nat) : Bool := k == 3 || (k == 2 && (f == 0 || f == 4 || f == 5))
theorem bb_inh_fr {N : Nat → Nat} {X : db_X} : bb_fr bb_S5 (bb_inh N X) X := by
  intro k i f q
  refine bb_inh_s5 k i f ?_
  rintro ⟨rfl, rfl⟩
  cases q
theorem bb_S5_SG : ∀ k f, bb_SG k f = false → bb_S5 k f = false := by
  intro k f h
  simp [bb_SG, bb_S5] at *
  omega
theorem bb_letGo_fr {N : Nat → Nat} {X : db_X} {k : Nat} : bb_fr bb_SG (bb_letGo N X k) X := by
  unfold bb_letGo bb_lg2
  have h1 : bb_fr bb_SG (bb_inh N (db_up X 3 0 k (-1))) X := (bb_inh_fr.mono bb_S5_SG).tr (bb_fr.up rfl)
  split
  · exact h1
  · exact ((bb_fr.up rfl).tr (bb_fr.up rfl)).tr h1
theorem bb_dropL_fr {N : Nat → Nat} {X : db_X} {i : Nat} : ∀ k : Nat, bb_fr bb_SG (bb_dropL N X i k) X
  | 0 => bb_fr.rf
  | k + 1 => by
    unfold bb_dropL
    split
    · exact bb_letGo_fr.tr (bb_dropL_fr k)
    · exact bb_dropL_fr k
theorem bb_drop_fr {N : Nat → Nat} {X : db_X} {i : Nat} : bb_fr bb_SG (bb_drop N X i) X := (bb_dropL_fr _).tr ((bb_fr.up rfl).tr (bb_fr.up rfl))
theorem bb_takeF_fr {i : Nat} : ∀ (q p : Nat) (X : db_X), bb_fr bb_SG (bb_takeF i q p X).2 X
  | 0, _, _ => bb_fr.rf
  | q + 1, p, X => by
    unfold bb_takeF
    split
    · exact bb_takeF_fr q (p + 1) X
    · split
      · exact bb_takeF_fr q (p + 1) X
      · split
        · exact (bb_takeF_fr q (p + 1) _).tr (bb_fr.up rfl)
        · split
          · exact bb_takeF_fr q (p + 1) X
          · exact bb_fr.up rfl
theorem bb_workL_fr {N : Nat → Nat} {i : Nat} : ∀ (p : Nat) (X : db_X), bb_fr bb_SG (bb_workL N i p X) X
  | 0, _ => bb_fr.rf
  | p + 1, X => by
    unfold bb_workL
    split
    · exact bb_workL_fr p X
    · split
      · exact bb_workL_fr p X
      · exact (bb_workL_fr p _).tr bb_letGo_fr
