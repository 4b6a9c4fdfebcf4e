def mm_SG (k _f : Nat) : Bool := k == 29 || k == 23 || k == 21 || k == 17 || k == 22
theorem mm_rk_fr {N : Nat → Nat} {Y : db_X} : bb_fr mm_SG (mm_rk N Y) Y := by
  intro k i f q
  refine mm_rk_s k i f ?_
  rintro ⟨rfl, -, -⟩
  cases q
theorem mm_lg_fr {N : Nat → Nat} {Y : db_X} {k : Nat} : bb_fr (fun k _ => k == 29 || k == 23 || k == 21) (mm_lg N Y k) Y := by
  have h0 : bb_fr (fun k _ => k == 29 || k == 23 || k == 21) (mm_rk N (db_up Y 23 0 k (-1))) (db_up Y 23 0 k (-1)) := by
    intro k i f q
    refine mm_rk_s k i f ?_
    rintro ⟨rfl, -, -⟩
    cases q
  unfold mm_lg mm_lg2
  have h1 := bb_fr.tr h0 (bb_fr.up (X := Y) rfl)
  split
  · exact h1
  · exact ((bb_fr.up rfl).tr (bb_fr.up rfl)).tr h1
theorem mm_lg_SG {N : Nat → Nat} {Y : db_X} {k : Nat} : bb_fr mm_SG (mm_lg N Y k) Y := mm_lg_fr.mono (by intro k f h; simp [mm_SG] at *; omega)
theorem mm_dropL_fr {N : Nat → Nat} {X : db_X} {i : Nat} : ∀ k : Nat, bb_fr mm_SG (mm_dropL N X i k) X
  | 0 => bb_fr.rf
  | k + 1 => by
    unfold mm_dropL
    split
    · exact mm_lg_SG.tr (mm_dropL_fr k)
    · exact mm_dropL_fr k
theorem mm_drop_fr {N : Nat → Nat} {X : db_X} {i : Nat} : bb_fr mm_SG (mm_drop N X i) X := (mm_dropL_fr _).tr ((bb_fr.up rfl).tr ((bb_fr.up rfl).tr (bb_fr.up rfl)))
theorem mm_mlog_tot {N : Nat → Nat} {X : db_X} {i : Nat} : mm_mlog N X i 0 0 30 = X 0 0 30 + 1 := by
  unfold mm_mlog
  split <;> simp [mm_m3, mm_m2, mm_m2b, db_up]
theorem mm_ms1_tot {N : Nat → Nat} {r : Int32 × db_X} {i t : Nat} (h : r.2 0 0 30 = nI t) : (mm_ms1 N r i).2 0 0 30 = nI t ∨ (mm_ms1 N r i).2 0 0 30 = nI (t + 1) := by
  unfold mm_ms1
  split
  · exact Or.inl h
  · split
    · refine Or.inr ?_
      show mm_drop N (mm_mlog N (mm_m1 r.2 i) i) i 0 0 30 = _
      rw [mm_drop_fr 0 0 30 rfl, mm_mlog_tot]
      have e : mm_m1 r.2 i 0 0 30 = r.2 0 0 30 := by simp [mm_m1, db_up]
      rw [e, h, nI_1]
    · exact Or.inl h
theorem mm_miss_tot {N : Nat → Nat} {X : db_X} {t : Nat} (h : X 0 0 30 = nI t) : ∀ j : Nat, ∃ u : Nat, u ≤ t + j ∧ (mm_miss N X j).2 0 0 30 = nI u
  | 0 => ⟨t, by omega, h⟩
  | j + 1 => by
    obtain ⟨u, hu, e⟩ := mm_miss_tot (N := N) h j
    rcases mm_ms1_tot (N := N) (i := j) e with q | q
    · exact ⟨u, by omega, q⟩
    · exact ⟨u + 1, by omega, q⟩
theorem mm_I.mlog {N : Nat → Nat} {sz : Nat} {X : db_X} (h : mm_I N sz X) {i : Nat} : mm_I N sz (mm_mlog N X i) := by
  unfold mm_mlog
  split
  · exact h.up rfl
  · exact ((h.up rfl).up rfl).up rfl
theorem mm_I.ms1 {N : Nat → Nat} {sz : Nat} {r : Int32 × db_X} (h : mm_I N sz r.2) {i : Nat} : mm_I N sz (mm_ms1 N r i).2 := by
  unfold mm_ms1
  split
  · exact h
  · split
    · exact (mm_I.mlog (h.up rfl)).drop
    · exact h
theorem mm_I.miss {N : Nat → Nat} {sz : Nat} {X : db_X} (h : mm_I N sz X) : ∀ i : Nat, mm_I N sz (mm_miss N X i).2
  | 0 => h
  | i + 1 => (mm_I.miss h i).ms1
theorem mm_I.rls {N : Nat → Nat} {sz : Nat} {X : db_X} (h : mm_I N sz X) : ∀ i : Nat, mm_I N sz (mm_rls X i)
  | 0 => h
  | i + 1 => by
    have h1 := mm_I.rls h i
    unfold mm_rls mm_rls1
    split
    · exact h1
    · split
      · exact (((((((h1.up rfl).up rfl).up rfl).up rfl).up21 (Or.inl rfl)).up rfl).up rfl).up rfl
      · exact h1
theorem mm_I.tkF {N : Nat → Nat} {sz : Nat} (hN : bb_N N) : ∀ (q : Nat) (t : Int32) (X : db_X), (t = -1 ∨ db_in t (N 0)) → mm_I N sz X → mm_I N sz (mm_tkF N sz q t X).2
  | 0, _, _, _, h => h
  | q + 1, t, X, ht, h => by
    have hn2 : sz < 2 ^ 31 := by have := hN.2.2.2.1; have := h.2.2.2.1; omega
    unfold mm_tkF
    split
    · exact h
    · rename_i a
      split
      · exact h
      · rename_i b
        split
        · exact mm_I.tkF hN q _ _ ht (h.up23 (Or.inr (ht.resolve_left a)))
        · obtain ⟨j, hj, e, -⟩ := mm_want_in b
          have hl : db_in (X 26 0 (mm_want X sz t.toNatClampNeg).toNatClampNeg) (N 1) := by
            rw [e, nI_clamp (by omega)]; exact h.2.2.2.2 j hj
          refine mm_I.tkF hN q _ _ ?_ (mm_I.rk (h.up21 (Or.inr (hl.mono hN.2.2.1))))
          by_cases z : mm_ahead N (mm_rk N (db_up X 21 0 t.toNatClampNeg (X 26 0 (mm_want X sz t.toNatClampNeg).toNatClampNeg))) (-1) = -1
          · exact Or.inl z
          · exact Or.inr (mm_ahead_in z)
theorem mm_I.tk {N : Nat → Nat} {sz : Nat} {X : db_X} (hN : bb_N N) (h : mm_I N sz X) : mm_I N sz (mm_tk N X sz).2 := by
  refine mm_I.tkF hN _ _ _ ?_ h.rk
  by_cases z : mm_ahead N (mm_rk N X) (-1) = -1
  · exact Or.inl z
  · exact Or.inr (mm_ahead_in z)
theorem mm_I.wkF {N : Nat → Nat} {sz i : Nat} : ∀ (q : Nat) (X : db_X), mm_I N sz X → mm_I N sz (mm_wkF N sz i q X)
  | 0, _, h => h
  | q + 1, X, h => by
    unfold mm_wkF
    split
    · exact h
    · exact mm_I.wkF q _ h.lg
theorem mm_I.w2 {N : Nat → Nat} {sz i : Nat} {X : db_X} (h : mm_I N sz X) : mm_I N sz (mm_wk2 X i) := by
  unfold mm_wk2 mm_w5
  split
  · split
    · exact (h.up rfl).up rfl
    · exact ((h.up rfl).up rfl).up rfl
  · exact h
theorem mm_I.wk {N : Nat → Nat} {sz i : Nat} {X : db_X} (h : mm_I N sz X) : mm_I N sz (mm_wk N X sz i) := (mm_I.wkF _ _ (h.up rfl)).w2
theorem mm_I.ct1 {N : Nat → Nat} {sz i : Nat} {X : db_X} {r : Int32} (h : mm_I N sz X) : mm_I N sz (mm_ct1 N r X i) := by
  have h1 : mm_I N sz (mm_c1 (mm_isP N X (nI i)) X i) := by
    unfold mm_c1
    split
    · exact h.up rfl
    · exact h
  have h2 : mm_I N sz (mm_c2 (mm_isP N X (nI i)) r (mm_c1 (mm_isP N X (nI i)) X i) i) := by
    unfold mm_c2
    split
    · exact h1.up rfl
    · exact h1
  exact h2.up rfl
theorem mm_I.ct {N : Nat → Nat} {sz : Nat} {X : db_X} {r : Int32} (h : mm_I N sz X) : ∀ i : Nat, mm_I N sz (mm_ct N r X i)
  | 0 => h
  | i + 1 => (mm_I.ct h i).ct1
def mm_tt3 (Y : db_X) : db_X := db_up Y 0 0 5 (Y 0 0 5 + 1)
def mm_tt2 (Y : db_X) : db_X := db_up Y 0 0 34 (Y 0 0 34 + 1)
def mm_tt1 (Y : db_X) (th : Nat) (r : Int32) : db_X := mm_tt3 (mm_tt2 (db_up Y 33 0 (th % 100) r))
def mm_idle (Y : db_X) : db_X := db_up Y 0 0 35 (Y 0 0 35 + 1)
noncomputable def mm_t2 (N : Nat → Nat) (Y : db_X) (sz : Nat) (r : Int32) : db_X := if r = -1 then mm_idle Y else mm_wk N Y sz r.toNatClampNeg
noncomputable def mm_p1 (N : Nat → Nat) (Y : db_X) : db_X := mm_rls (mm_miss N Y (N 0)).2 (N 0)
noncomputable def mm_tr (N : Nat → Nat) (Y : db_X) (sz : Nat) : Int32 × db_X := mm_tk N (mm_p1 N Y) sz
noncomputable def mm_turn (N : Nat → Nat) (Y : db_X) (sz th : Nat) : Int32 × db_X := ((mm_miss N Y (N 0)).1, mm_tt1 (mm_ct N (mm_tr N Y sz).1 (mm_t2 N (mm_tr N Y sz).2 sz (mm_tr N Y sz).1) (N 0)) th (mm_tr N Y sz).1)
theorem mm_I.p1 {N : Nat → Nat} {sz : Nat} {X : db_X} (h : mm_I N sz X) : mm_I N sz (mm_p1 N X) := (h.miss _).rls _
theorem mm_I.t2 {N : Nat → Nat} {sz : Nat} {X : db_X} {r : Int32} (h : mm_I N sz X) : mm_I N sz (mm_t2 N X sz r) := by
  unfold mm_t2
  split
  · exact h.up rfl
  · exact h.wk
theorem mm_I.turn {N : Nat → Nat} {sz th : Nat} {X : db_X} (hN : bb_N N) (h : mm_I N sz X) : mm_I N sz (mm_turn N X sz th).2 := (((mm_I.ct (mm_I.t2 (mm_I.tk hN h.p1)) _).up rfl).up rfl).up rfl
theorem mm_tkF_in {N : Nat → Nat} {sz : Nat} : ∀ (q : Nat) (t : Int32) (X : db_X), (t = -1 ∨ db_in t (N 0)) → ((mm_tkF N sz q t X).1 = -1 ∨ db_in (mm_tkF N sz q t X).1 (N 0))
  | 0, _, _, _ => Or.inl rfl
  | q + 1, t, X, ht => by
    unfold mm_tkF
    split
    · exact Or.inl rfl
    · split
      · exact ht
      · split
        · exact mm_tkF_in q _ _ ht
        · refine mm_tkF_in q _ _ ?_
          by_cases z : mm_ahead N (mm_rk N (db_up X 21 0 t.toNatClampNeg (X 26 0 (mm_want X sz t.toNatClampNeg).toNatClampNeg))) (-1) = -1
          · exact Or.inl z
          · exact Or.inr (mm_ahead_in z)
theorem mm_tk_in {N : Nat → Nat} {sz : Nat} {X : db_X} : (mm_tk N X sz).1 = -1 ∨ db_in (mm_tk N X sz).1 (N 0) := by
  refine mm_tkF_in _ _ _ ?_
  by_cases z : mm_ahead N (mm_rk N X) (-1) = -1
  · exact Or.inl z
  · exact Or.inr (mm_ahead_in z)
/-- who is taken is ready -/
theorem mm_tkF_rdy {N : Nat → Nat} {sz : Nat} (hn : N 0 < 2 ^ 31) : ∀ (q : Nat) (t : Int32) (X : db_X), (t = -1 ∨ (db_in t (N 0) ∧ X 21 0 t.toNatClampNeg = -1)) → (mm_tkF N sz q t X).1 = -1 ∨ (mm_tkF N sz q t X).2 21 0 (mm_tkF N sz q t X).1.toNatClampNeg = -1
  | 0, _, _, _ => Or.inl rfl
  | q + 1, t, X, ht => by
    unfold mm_tkF
    split
    · exact Or.inl rfl
    · rename_i a
      have ht := ht.resolve_left a
      split
      · exact Or.inr ht.2
      · split
        · refine mm_tkF_rdy hn q _ _ (Or.inr ⟨ht.1, ?_⟩)
          simp [db_up]
          exact ht.2
        · refine mm_tkF_rdy hn q _ _ ?_
          by_cases z : mm_ahead N (mm_rk N (db_up X 21 0 t.toNatClampNeg (X 26 0 (mm_want X sz t.toNatClampNeg).toNatClampNeg))) (-1) = -1
          · exact Or.inl z
          · exact Or.inr ⟨mm_ahead_in z, (mm_ahead_ready hn z).2⟩
theorem mm_tk_rdy {N : Nat → Nat} {sz : Nat} {X : db_X} (hn : N 0 < 2 ^ 31) : (mm_tk N X sz).1 = -1 ∨ (mm_tk N X sz).2 21 0 (mm_tk N X sz).1.toNatClampNeg = -1 := by
  refine mm_tkF_rdy hn _ _ _ ?_
  by_cases z : mm_ahead N (mm_rk N X) (-1) = -1
  · exact Or.inl z
  · exact Or.inr ⟨mm_ahead_in z, (mm_ahead_ready hn z).2⟩
