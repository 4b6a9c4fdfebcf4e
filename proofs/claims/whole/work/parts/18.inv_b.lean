theorem bb_note_tot {N : Nat → Nat} {X : db_X} {n t : Int32} : bb_note N X n t 6 0 2 = X 6 0 2 + 1 := by
  unfold bb_note
  split <;> simp [bb_note3, bb_note2, db_up]
theorem bb_late1_tot {N : Nat → Nat} {X : db_X} {i t : Nat} (h : X 6 0 2 = nI t) : bb_late1 N X i 6 0 2 = nI t ∨ bb_late1 N X i 6 0 2 = nI (t + 1) := by
  unfold bb_late1
  split
  · exact Or.inl h
  · split
    · refine Or.inr ?_
      rw [bb_drop_fr 6 0 2 rfl]
      have e : bb_late2 (bb_note N X (nI i) (X 0 0 6)) i 6 0 2 = bb_note N X (nI i) (X 0 0 6) 6 0 2 := by simp [bb_late2, db_up]
      rw [e, bb_note_tot, h, nI_1]
    · exact Or.inl h
theorem bb_late_tot {N : Nat → Nat} {X : db_X} {t : Nat} (h : X 6 0 2 = nI t) : ∀ j : Nat, ∃ u : Nat, u ≤ t + j ∧ bb_late N X j 6 0 2 = nI u
  | 0 => ⟨t, by omega, h⟩
  | j + 1 => by
    obtain ⟨u, hu, e⟩ := bb_late_tot (N := N) h j
    rcases bb_late1_tot (N := N) (i := j) e with q | q
    · exact ⟨u, by omega, q⟩
    · exact ⟨u + 1, by omega, q⟩
theorem bb_rowf {x : Int32} {cnt : Nat} {L : Nat → Nat → Nat} (h : db_in x cnt) (hc : cnt < 2 ^ 31) : (if x < 0 then none else some (L 12 x.toNatClampNeg)) = some (L 12 x.toNatClampNeg) := by
  rw [if_neg]
  obtain ⟨j, hj, rfl⟩ := h
  exact nI_pos (by omega)
theorem bb_rels1_fr {X : db_X} {i : Nat} : bb_fr (fun k _ => k == 1 || k == 2) (bb_rels1 X i) X := by
  unfold bb_rels1
  split
  · exact bb_fr.rf
  · split
    · exact (bb_fr.up rfl).tr ((bb_fr.up rfl).tr ((bb_fr.up rfl).tr ((bb_fr.up rfl).tr ((bb_fr.up rfl).tr ((bb_fr.up rfl).tr ((bb_fr.up rfl).tr (bb_fr.up rfl)))))))
    · exact bb_fr.rf
theorem bb_rels_fr {X : db_X} : ∀ i : Nat, bb_fr (fun k _ => k == 1 || k == 2) (bb_rels X i) X
  | 0 => bb_fr.rf
  | i + 1 => bb_rels1_fr.tr (bb_rels_fr i)
theorem bb_late1_fr {N : Nat → Nat} {X : db_X} {i : Nat} : bb_fr (fun k f => bb_SG k f || k == 6 || k == 7 || k == 8 || (k == 1 && f == 8)) (bb_late1 N X i) X := by
  unfold bb_late1
  split
  · exact bb_fr.rf
  · split
    · refine bb_fr.tr (Y := bb_late2 (bb_note N X (nI i) (X 0 0 6)) i) (bb_drop_fr.mono ?_) (bb_fr.tr (Y := bb_note N X (nI i) (X 0 0 6)) (bb_fr.up rfl) ?_)
      · intro k f h
        simp only [Bool.or_eq_false_iff] at h
        exact h.1.1.1.1
      · unfold bb_note
        split
        · exact bb_fr.up rfl
        · exact (bb_fr.up rfl).tr ((bb_fr.up rfl).tr (bb_fr.up rfl))
    · exact bb_fr.rf
theorem bb_late_fr {N : Nat → Nat} {X : db_X} : ∀ i : Nat, bb_fr (fun k f => bb_SG k f || k == 6 || k == 7 || k == 8 || (k == 1 && f == 8)) (bb_late N X i) X
  | 0 => bb_fr.rf
  | i + 1 => bb_late1_fr.tr (bb_late_fr i)
theorem bb_work_fr {N : Nat → Nat} {X : db_X} {sz i : Nat} : bb_fr (fun k _ => k == 1 || k == 2 || k == 3) (bb_work N X sz i) X := by
  unfold bb_work bb_work2
  have h1 : bb_fr (fun k _ => k == 1 || k == 2 || k == 3) (bb_workL N i sz (db_up X 2 i 3 (X 2 i 3 + 1))) X := by
    refine ((bb_workL_fr _ _).mono ?_).tr (bb_fr.up rfl)
    intro k f h
    simp [bb_SG] at *
    omega
  split
  · exact ((bb_fr.up rfl).tr ((bb_fr.up rfl).tr (bb_fr.up rfl))).tr h1
  · exact h1
theorem bb_runF_fr {N : Nat → Nat} {sz : Nat} : ∀ (q : Nat) (X : db_X), bb_fr (fun k _ => k == 1 || k == 2 || k == 3) (bb_runF N sz q X).2 X
  | 0, _ => bb_fr.rf
  | q + 1, X => by
    have e0 : bb_fr (fun k _ => k == 1 || k == 2 || k == 3) (bb_inh N X) X := bb_inh_fr.mono (by intro k f h; simp [bb_S5] at *; omega)
    unfold bb_runF
    split
    · exact e0
    · have e1 : ∀ i, bb_fr (fun k _ => k == 1 || k == 2 || k == 3) (bb_take (bb_inh N X) sz i).2 X := fun i => bb_fr.tr ((bb_takeF_fr _ _ _).mono (by intro k f h; simp [bb_SG] at *; omega)) e0
      split
      · exact (bb_runF_fr q _).tr (e1 _)
      · exact bb_work_fr.tr (e1 _)
theorem bb_cw1_fr {r : Int32} {X : db_X} {i : Nat} : bb_fr (fun k _ => k == 1 || k == 2) (bb_cw1 r X i) X := by
  unfold bb_cw1
  split
  · exact bb_fr.up rfl
  · split
    · exact bb_fr.up rfl
    · exact bb_fr.rf
theorem bb_cw_fr {r : Int32} {X : db_X} : ∀ i : Nat, bb_fr (fun k _ => k == 1 || k == 2) (bb_cw r X i) X
  | 0 => bb_fr.rf
  | i + 1 => (bb_fr.up rfl).tr (bb_cw1_fr.tr (bb_cw_fr i))
theorem bb_pt1_fr {N : Nat → Nat} {X : db_X} : bb_fr (fun k _ => k == 1 || k == 2 || k == 3 || k == 6 || k == 7 || k == 8) (bb_pt1 N X) X := by
  unfold bb_pt1
  refine ((bb_rels_fr _).mono ?_).tr ((bb_late_fr _).mono ?_)
  · intro k f h
    simp at *
    omega
  · intro k f h
    simp [bb_SG] at *
    omega
theorem bb_run1_fr {N : Nat → Nat} {X : db_X} {sz : Nat} : bb_fr (fun k _ => k == 1 || k == 2 || k == 3) (bb_run1 N X sz).2 X := bb_runF_fr _ _
theorem bb_I.pt1 {N : Nat → Nat} {cnt sz : Nat} {X : db_X} (h : bb_I N cnt sz X) : bb_I N cnt sz (bb_pt1 N X) := (h.late _).rels _
theorem bb_I.hn {N : Nat → Nat} {cnt sz : Nat} {X : db_X} (h : bb_I N cnt sz X) {th : Nat} {r : Int32} : bb_I N cnt sz (bb_hn X th r) := (h.up rfl).up rfl
theorem bb_I.pt3 {N : Nat → Nat} {cnt sz : Nat} {X : db_X} (h : bb_I N cnt sz X) {r : Int32} : bb_I N cnt sz (bb_pt3 X r) := by
  unfold bb_pt3
  split
  · exact (h.up rfl).up rfl
  · exact h.up rfl
theorem bb_I.pass {N : Nat → Nat} {cnt sz : Nat} {X : db_X} (hN : bb_N N) (h : bb_I N cnt sz X) {th : Nat} : bb_I N cnt sz (bb_pass N X sz th).2 := bb_I.pt3 (bb_I.hn (bb_I.cw (bb_I.runF hN _ _ h.pt1) _))
theorem bb_runF_in {N : Nat → Nat} {sz : Nat} : ∀ (q : Nat) (X : db_X), (bb_runF N sz q X).1 = -1 ∨ db_in (bb_runF N sz q X).1 (N 0)
  | 0, _ => Or.inl rfl
  | q + 1, X => by
    unfold bb_runF
    split
    · exact Or.inl rfl
    · rename_i a
      split
      · exact bb_runF_in q _
      · exact Or.inr (bb_ahead_in a)
