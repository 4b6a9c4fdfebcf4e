theorem mm_ct1_fr {N : Nat → Nat} {r : Int32} {X : db_X} {i : Nat} : bb_fr (fun k _ => k == 14 || k == 15 || k == 22) (mm_ct1 N r X i) X := by
  have h1 : bb_fr (fun k _ => k == 14 || k == 15 || k == 22) (mm_c1 (mm_isP N X (nI i)) X i) X := by
    unfold mm_c1
    split
    · exact bb_fr.up rfl
    · exact bb_fr.rf
  have h2 : bb_fr (fun k _ => k == 14 || k == 15 || k == 22) (mm_c2 (mm_isP N X (nI i)) r (mm_c1 (mm_isP N X (nI i)) X i) i) X := by
    unfold mm_c2
    split
    · exact (bb_fr.up rfl).tr h1
    · exact h1
  exact (bb_fr.up rfl).tr h2
theorem mm_ct_fr {N : Nat → Nat} {r : Int32} {X : db_X} : ∀ i : Nat, bb_fr (fun k _ => k == 14 || k == 15 || k == 22) (mm_ct N r X i) X
  | 0 => bb_fr.rf
  | i + 1 => mm_ct1_fr.tr (mm_ct_fr i)
theorem mm_tkF_fr {N : Nat → Nat} {sz : Nat} : ∀ (q : Nat) (t : Int32) (X : db_X), bb_fr (fun k _ => k == 29 || k == 23 || k == 21) (mm_tkF N sz q t X).2 X
  | 0, _, _ => bb_fr.rf
  | q + 1, t, X => by
    have hr : ∀ Y : db_X, bb_fr (fun k _ => k == 29 || k == 23 || k == 21) (mm_rk N Y) Y := by
      intro Y k i f q
      refine mm_rk_s k i f ?_
      rintro ⟨rfl, -, -⟩
      cases q
    unfold mm_tkF
    split
    · exact bb_fr.rf
    · split
      · exact bb_fr.rf
      · split
        · exact (mm_tkF_fr q _ _).tr (bb_fr.up rfl)
        · exact (mm_tkF_fr q _ _).tr ((hr _).tr (bb_fr.up rfl))
theorem mm_tk_fr {N : Nat → Nat} {sz : Nat} {X : db_X} : bb_fr (fun k _ => k == 29 || k == 23 || k == 21) (mm_tk N X sz).2 X := by
  refine (mm_tkF_fr _ _ _).tr ?_
  intro k i f q
  refine mm_rk_s k i f ?_
  rintro ⟨rfl, -, -⟩
  cases q
theorem mm_wkF_fr {N : Nat → Nat} {sz i : Nat} : ∀ (q : Nat) (X : db_X), bb_fr (fun k _ => k == 29 || k == 23 || k == 21) (mm_wkF N sz i q X) X
  | 0, _ => bb_fr.rf
  | q + 1, X => by
    unfold mm_wkF
    split
    · exact bb_fr.rf
    · exact (mm_wkF_fr q _).tr mm_lg_fr
theorem mm_wk_fr {N : Nat → Nat} {sz i : Nat} {X : db_X} : bb_fr (fun k _ => k == 29 || k == 23 || k == 21 || k == 20 || k == 17 || k == 12 || k == 16) (mm_wk N X sz i) X := by
  have h1 : bb_fr (fun k _ => k == 29 || k == 23 || k == 21 || k == 20 || k == 17 || k == 12 || k == 16) (mm_wkF N sz i 20 (mm_w1 X i)) X :=
    ((mm_wkF_fr _ _).mono (by intro k f h; simp at *; omega)).tr (bb_fr.up rfl)
  unfold mm_wk mm_wk2
  split
  · unfold mm_w5
    split
    · exact ((bb_fr.up rfl).tr (bb_fr.up rfl)).tr h1
    · exact ((bb_fr.up rfl).tr ((bb_fr.up rfl).tr (bb_fr.up rfl))).tr h1
  · exact h1
theorem mm_t2_34 {N : Nat → Nat} {sz : Nat} {X : db_X} {r : Int32} : mm_t2 N X sz r 0 0 34 = X 0 0 34 := by
  unfold mm_t2
  split
  · simp [mm_idle, db_up]
  · exact mm_wk_fr 0 0 34 rfl
theorem mm_t2_30 {N : Nat → Nat} {sz : Nat} {X : db_X} {r : Int32} : mm_t2 N X sz r 0 0 30 = X 0 0 30 := by
  unfold mm_t2
  split
  · simp [mm_idle, db_up]
  · exact mm_wk_fr 0 0 30 rfl
theorem mm_mlog_fr {N : Nat → Nat} {X : db_X} {i : Nat} : bb_fr (fun k f => k == 31 || k == 32 || (k == 0 && f == 30)) (mm_mlog N X i) X := by
  unfold mm_mlog
  split
  · exact bb_fr.up rfl
  · exact (bb_fr.up rfl).tr ((bb_fr.up rfl).tr (bb_fr.up rfl))
theorem mm_ms1_fr {N : Nat → Nat} {r : Int32 × db_X} {i : Nat} : bb_fr (fun k f => mm_SG k f || k == 31 || k == 32 || k == 13 || (k == 0 && f == 30)) (mm_ms1 N r i).2 r.2 := by
  unfold mm_ms1
  split
  · exact bb_fr.rf
  · split
    · refine bb_fr.tr (Y := mm_mlog N (mm_m1 r.2 i) i) (mm_drop_fr.mono ?_) (bb_fr.tr (Y := mm_m1 r.2 i) (mm_mlog_fr.mono ?_) (bb_fr.up rfl))
      · intro k f h
        simp only [Bool.or_eq_false_iff] at h
        exact h.1.1.1.1
      · intro k f h
        simp only [Bool.or_eq_false_iff] at h ⊢
        exact ⟨⟨h.1.1.1.2, h.1.1.2⟩, h.2⟩
    · exact bb_fr.rf
theorem mm_miss_fr {N : Nat → Nat} {X : db_X} : ∀ i : Nat, bb_fr (fun k f => mm_SG k f || k == 31 || k == 32 || k == 13 || (k == 0 && f == 30)) (mm_miss N X i).2 X
  | 0 => bb_fr.rf
  | i + 1 => mm_ms1_fr.tr (mm_miss_fr i)
theorem mm_rls1_fr {X : db_X} {i : Nat} : bb_fr (fun k _ => k == 17 || k == 18 || k == 19 || k == 20 || k == 21 || k == 22 || k == 11 || k == 10) (mm_rls1 X i) X := by
  unfold mm_rls1
  split
  · exact bb_fr.rf
  · split
    · exact (bb_fr.up rfl).tr ((bb_fr.up rfl).tr ((bb_fr.up rfl).tr ((bb_fr.up rfl).tr ((bb_fr.up rfl).tr ((bb_fr.up rfl).tr ((bb_fr.up rfl).tr (bb_fr.up rfl)))))))
    · exact bb_fr.rf
theorem mm_rls_fr {X : db_X} : ∀ i : Nat, bb_fr (fun k _ => k == 17 || k == 18 || k == 19 || k == 20 || k == 21 || k == 22 || k == 11 || k == 10) (mm_rls X i) X
  | 0 => bb_fr.rf
  | i + 1 => mm_rls1_fr.tr (mm_rls_fr i)
theorem mm_p1_34 {N : Nat → Nat} {X : db_X} : mm_p1 N X 0 0 34 = X 0 0 34 := (mm_rls_fr _ 0 0 34 rfl).trans (mm_miss_fr _ 0 0 34 rfl)
theorem mm_turn_34 {N : Nat → Nat} {X : db_X} {sz th : Nat} : (mm_turn N X sz th).2 0 0 34 = X 0 0 34 + 1 := by
  have h1 : ∀ (Y : db_X) (r : Int32), mm_tt1 Y th r 0 0 34 = Y 0 0 34 + 1 := by
    intro Y r
    simp [mm_tt1, mm_tt2, mm_tt3, db_up]
  simp only [mm_turn]
  rw [h1, mm_ct_fr _ 0 0 34 rfl, mm_t2_34]
  simp only [mm_tr]
  rw [mm_tk_fr 0 0 34 rfl, mm_p1_34]
theorem mm_turn_30 {N : Nat → Nat} {X : db_X} {sz th : Nat} : (mm_turn N X sz th).2 0 0 30 = (mm_miss N X (N 0)).2 0 0 30 := by
  have h1 : ∀ (Y : db_X) (r : Int32), mm_tt1 Y th r 0 0 30 = Y 0 0 30 := by
    intro Y r
    simp [mm_tt1, mm_tt2, mm_tt3, db_up]
  simp only [mm_turn]
  rw [h1, mm_ct_fr _ 0 0 30 rfl, mm_t2_30]
  simp only [mm_tr]
  rw [mm_tk_fr 0 0 30 rfl]
  exact mm_rls_fr _ 0 0 30 rfl
noncomputable def mm_tick (N : Nat → Nat) (X : db_X) (sz th : Nat) : Int32 × db_X := if X 0 0 5 = X 0 0 4 then (-2, X) else ((mm_turn N X sz th).2 33 0 (th % 100), (mm_turn N X sz th).2)
