/-! a tick: the late, the new, the counts -/
def rr_M (X Y : db_X) : Prop := X 6 0 2 = Y 0 0 30 ∧ (∀ j, X 7 0 j = Y 31 0 j) ∧ ∀ j, X 8 0 j = Y 32 0 j
def re (N : Nat → Nat) (X Y : db_X) (sz : Nat) : Prop := rc N X Y ∧ rt1 N X Y ∧ X 0 0 6 = Y 0 0 5 ∧ rr_S N X Y sz ∧ rr_L N Y sz
theorem late_step {N : Nat → Nat} {X Y : db_X} {sz i : Nat} {c0 : Int32} (hN : bb_N N) (hi : i < N 0) (h : re N X Y sz) (hM : rr_M X Y) :
    re N (bb_late1 N X i) (mm_ms1 N (c0, Y) i).2 sz ∧ rr_M (bb_late1 N X i) (mm_ms1 N (c0, Y) i).2 ∧ (¬ (mm_ms1 N (c0, Y) i).2 17 0 i = 0 → ¬ Y 19 0 i = Y 0 0 5) ∧ (∀ j, ¬ (mm_ms1 N (c0, Y) i).2 17 0 j = 0 → ¬ Y 17 0 j = 0) ∧
    ((bb_late1 N X i 6 0 2 = X 6 0 2 ∧ (mm_ms1 N (c0, Y) i).1 = c0) ∨ (bb_late1 N X i 6 0 2 = X 6 0 2 + 1 ∧ (mm_ms1 N (c0, Y) i).1 = 1)) := by
  have hn : N 0 < 2 ^ 31 := by have := hN.2.1; omega
  obtain ⟨hc, ht, hnow, hS, hL⟩ := h
  have hp := rr_isPn hn hc.2.2.2.2 hi
  unfold bb_late1 mm_ms1
  show re N _ (if mm_isP N Y (nI i) = 0 then (c0, Y) else if Y 19 0 i = Y 0 0 5 then (1, mm_drop N (mm_mlog N (mm_m1 Y i) i) i) else (c0, Y)).2 sz ∧ rr_M _ (if mm_isP N Y (nI i) = 0 then (c0, Y) else if Y 19 0 i = Y 0 0 5 then (1, mm_drop N (mm_mlog N (mm_m1 Y i) i) i) else (c0, Y)).2 ∧ (¬ (if mm_isP N Y (nI i) = 0 then (c0, Y) else if Y 19 0 i = Y 0 0 5 then (1, mm_drop N (mm_mlog N (mm_m1 Y i) i) i) else (c0, Y)).2 17 0 i = 0 → _) ∧ (∀ j, ¬ (if mm_isP N Y (nI i) = 0 then (c0, Y) else if Y 19 0 i = Y 0 0 5 then (1, mm_drop N (mm_mlog N (mm_m1 Y i) i) i) else (c0, Y)).2 17 0 j = 0 → _) ∧ ((_ ∧ (if mm_isP N Y (nI i) = 0 then (c0, Y) else if Y 19 0 i = Y 0 0 5 then (1, mm_drop N (mm_mlog N (mm_m1 Y i) i) i) else (c0, Y)).1 = c0) ∨ (_ ∧ (if mm_isP N Y (nI i) = 0 then (c0, Y) else if Y 19 0 i = Y 0 0 5 then (1, mm_drop N (mm_mlog N (mm_m1 Y i) i) i) else (c0, Y)).1 = 1))
  have e0 : X 2 i 0 = Y 17 0 i := hc.1 0 (by decide) i hi
  have e2 : X 2 i 2 = Y 19 0 i := hc.1 2 (by decide) i hi
  rw [e0, e2, hnow]
  by_cases q : Y 17 0 i = 0
  · rw [if_pos q, if_pos (hp.mpr q)]
    exact ⟨⟨hc, ht, hnow, hS, hL⟩, hM, fun z => absurd q z, fun _ => id, Or.inl ⟨rfl, rfl⟩⟩
  · rw [if_neg q, if_neg (fun z => q (hp.mp z))]
    by_cases q2 : Y 19 0 i = Y 0 0 5
    · rw [if_pos q2, if_pos q2]
      have fx : bb_fr (fun k _ => k == 6 || k == 7 || k == 8) (bb_note N X (nI i) (Y 0 0 5)) X := by
        unfold bb_note
        split
        · exact bb_fr.up rfl
        · exact (bb_fr.up rfl).tr ((bb_fr.up rfl).tr (bb_fr.up rfl))
      have fx2 : bb_fr (fun k _ => k == 1 || k == 6 || k == 7 || k == 8) (bb_late2 (bb_note N X (nI i) (Y 0 0 5)) i) X := (bb_fr.up rfl).tr (fx.mono (by intro k f h; simp at *; omega))
      have fy : bb_fr (fun k f => k == 13 || k == 31 || k == 32 || (k == 0 && f == 30)) (mm_mlog N (mm_m1 Y i) i) Y := (mm_mlog_fr.mono (by intro k f h; simp at *; omega)).tr (bb_fr.up rfl)
      have hc2 : rc N (bb_late2 (bb_note N X (nI i) (Y 0 0 5)) i) (mm_mlog N (mm_m1 Y i) i) := hc.fr (fun j f _ => fx2 2 j f rfl) (fun k => fx2 3 0 k rfl) (fun r j hr => fy r 0 j (by simp; omega))
      have ht2 : rt1 N (bb_late2 (bb_note N X (nI i) (Y 0 0 5)) i) (mm_mlog N (mm_m1 Y i) i) := by
        have a : rt1 N (bb_late2 (bb_note N X (nI i) (Y 0 0 5)) i) (mm_m1 Y i) := by
          unfold bb_late2 mm_m1
          refine (ht.fr (X' := bb_note N X (nI i) (Y 0 0 5)) (Y' := Y) (fun j f => fx 1 j f rfl) (fun _ _ _ _ => rfl)).up rfl ?_
          rw [fx 1 i 8 rfl, ht 8 (by decide) (by decide) i hi]
        exact a.fr (fun _ _ => rfl) (fun r j h1 h2 => mm_mlog_fr r 0 j (by simp; omega))
      have hL2 : rr_L N (mm_mlog N (mm_m1 Y i) i) sz := hL.fr (fun r j hr => fy r 0 j (by simp; omega))
      have sx : ∀ p f, bb_sec (bb_drop N (bb_late2 (bb_note N X (nI i) (Y 0 0 5)) i) i) p f = bb_sec X p f := fun p f => (bb_sec_fr bb_drop_fr (fun _ => rfl) (fun _ => rfl) p f).trans (bb_sec_fr fx2 (fun _ => rfl) (fun _ => rfl) p f)
      refine ⟨⟨hc2.drop hN i, ht2.fr (fun j f => bb_drop_fr 1 j f rfl) (fun r j h1 h2 => mm_drop_fr r 0 j (by simp [mm_SG]; omega)), ?_, ?_, hL2.drop hN hi⟩, ?_, ?_, ?_, Or.inr ⟨?_, rfl⟩⟩
      · rw [bb_drop_fr 0 0 6 rfl, fx2 0 0 6 rfl]
        show _ = mm_drop N (mm_mlog N (mm_m1 Y i) i) i 0 0 5
        rw [mm_drop_fr 0 0 5 rfl, fy 0 0 5 rfl, hnow]
      · refine hS.fr sx (fun r s hr => ?_)
        show mm_drop N (mm_mlog N (mm_m1 Y i) i) i r 0 s = _
        rw [mm_drop_fr r 0 s (by simp [mm_SG]; omega), fy r 0 s (by simp; omega)]
      · have e6 : X 6 0 2 = mm_m1 Y i 0 0 30 := by unfold mm_m1; rw [up_k (by decide)]; exact hM.1
        have e7 : ∀ j, X 7 0 j = mm_m1 Y i 31 0 j := fun j => by unfold mm_m1; rw [up_k (by decide)]; exact hM.2.1 j
        have e8 : ∀ j, X 8 0 j = mm_m1 Y i 32 0 j := fun j => by unfold mm_m1; rw [up_k (by decide)]; exact hM.2.2 j
        have e5 : Y 0 0 5 = mm_m1 Y i 0 0 5 := by unfold mm_m1; rw [up_k (by decide)]
        have k1 : rr_M (bb_note N X (nI i) (Y 0 0 5)) (mm_mlog N (mm_m1 Y i) i) := by
          unfold bb_note mm_mlog
          rw [← e6]
          split
          · refine ⟨?_, fun j => ?_, fun j => ?_⟩
            · unfold bb_note3 mm_m3; rw [up_at, up_at, e6]
            · unfold bb_note3 mm_m3; rw [up_k (by decide), up_k (by decide)]; exact e7 j
            · unfold bb_note3 mm_m3; rw [up_k (by decide), up_k (by decide)]; exact e8 j
          · unfold bb_note3 bb_note2 mm_m3 mm_m2 mm_m2b
            refine ⟨?_, fun j => ?_, fun j => ?_⟩
            · simp [db_up, e6]
            · simp [db_up, e6, e7]
            · simp [db_up, e6, e8, ← e5]
        refine ⟨?_, fun j => ?_, fun j => ?_⟩
        · show bb_drop N (bb_late2 (bb_note N X (nI i) (Y 0 0 5)) i) i 6 0 2 = mm_drop N (mm_mlog N (mm_m1 Y i) i) i 0 0 30
          rw [bb_drop_fr 6 0 2 rfl, mm_drop_fr 0 0 30 rfl]
          unfold bb_late2
          rw [up_k (by decide)]
          exact k1.1
        · show bb_drop N (bb_late2 (bb_note N X (nI i) (Y 0 0 5)) i) i 7 0 j = mm_drop N (mm_mlog N (mm_m1 Y i) i) i 31 0 j
          rw [bb_drop_fr 7 0 j rfl, mm_drop_fr 31 0 j rfl]
          unfold bb_late2
          rw [up_k (by decide)]
          exact k1.2.1 j
        · show bb_drop N (bb_late2 (bb_note N X (nI i) (Y 0 0 5)) i) i 8 0 j = mm_drop N (mm_mlog N (mm_m1 Y i) i) i 32 0 j
          rw [bb_drop_fr 8 0 j rfl, mm_drop_fr 32 0 j rfl]
          unfold bb_late2
          rw [up_k (by decide)]
          exact k1.2.2 j
      · intro z
        exact absurd (by show mm_drop N (mm_mlog N (mm_m1 Y i) i) i 17 0 i = 0; rw [mm_drop_17, if_pos rfl]) z
      · intro j z
        have z2 : ¬ mm_drop N (mm_mlog N (mm_m1 Y i) i) i 17 0 j = 0 := z
        rw [mm_drop_17] at z2
        by_cases w : j = i
        · rw [if_pos w] at z2; exact absurd rfl z2
        · rw [if_neg w, fy 17 0 j rfl] at z2; exact z2
      · rw [bb_drop_fr 6 0 2 rfl]
        unfold bb_late2
        rw [up_k (by decide), bb_note_tot]
    · rw [if_neg q2, if_neg q2]
      exact ⟨⟨hc, ht, hnow, hS, hL⟩, hM, fun _ => q2, fun _ => id, Or.inl ⟨rfl, rfl⟩⟩
theorem late_all {N : Nat → Nat} {X Y : db_X} {sz tm : Nat} (hN : bb_N N) (h : re N X Y sz) (hM : rr_M X Y) (htm : X 6 0 2 = nI tm) : ∀ n, n ≤ N 0 → re N (bb_late N X n) (mm_miss N Y n).2 sz ∧ rr_M (bb_late N X n) (mm_miss N Y n).2 ∧ (∀ j, j < n → ¬ (mm_miss N Y n).2 17 0 j = 0 → ¬ Y 19 0 j = Y 0 0 5) ∧ (∀ j, ¬ (mm_miss N Y n).2 17 0 j = 0 → ¬ Y 17 0 j = 0) ∧
    ∃ v, v ≤ n ∧ bb_late N X n 6 0 2 = nI (tm + v) ∧ (mm_miss N Y n).1 = if v = 0 then 0 else 1
  | 0, _ => ⟨h, hM, fun j hj => absurd hj (by omega), fun _ => id, 0, Nat.le_refl _, htm, rfl⟩
  | n + 1, hn => by
    obtain ⟨a1, a2, a3, a4, v, a5, a6, a7⟩ := late_all hN h hM htm n (by omega)
    obtain ⟨b1, b2, b3, b4, b5⟩ := late_step (i := n) (c0 := (mm_miss N Y n).1) hN (by omega) a1 a2
    have e19 : ∀ j, (mm_miss N Y n).2 19 0 j = Y 19 0 j := fun j => mm_miss_fr n 19 0 j rfl
    have e5 : (mm_miss N Y n).2 0 0 5 = Y 0 0 5 := mm_miss_fr n 0 0 5 rfl
    refine ⟨b1, b2, fun j hj z => ?_, fun j z => a4 j (b4 j z), ?_⟩
    · by_cases w : j = n
      · subst w
        rw [← e19, ← e5]
        exact b3 z
      · exact a3 j (by omega) (b4 j z)
    · rcases b5 with ⟨c1, c2⟩ | ⟨c1, c2⟩
      · exact ⟨v, by omega, c1.trans a6, c2.trans a7⟩
      · refine ⟨v + 1, by omega, ?_, ?_⟩
        · rw [show bb_late N X (n + 1) 6 0 2 = bb_late1 N (bb_late N X n) n 6 0 2 from rfl, c1, a6, nI_1]
          rfl
        · rw [if_neg (by omega)]; exact c2
theorem rels_step {N : Nat → Nat} {X Y : db_X} {sz i : Nat} (hN : bb_N N) (hi : i < N 0) (h : re N X Y sz) (hV : mm_V N Y) (hnp : Y 10 0 i = Y 0 0 5 → Y 17 0 i = 0) : re N (bb_rels1 X i) (mm_rls1 Y i) sz := by
  obtain ⟨hc, ht, hnow, hS, hL⟩ := h
  have hn := hN.2.1
  have hn1 := hN.2.2.1
  unfold bb_rels1 mm_rls1
  have e1 : X 1 i 1 = Y 6 0 i := ht 1 (by decide) (by decide) i hi
  have e5 : X 1 i 5 = Y 10 0 i := ht 5 (by decide) (by decide) i hi
  rw [e1, e5, hnow]
  by_cases q : Y 6 0 i = 0
  · rw [if_pos q, if_pos q]; exact ⟨hc, ht, hnow, hS, hL⟩
  · rw [if_neg q, if_neg q]
    by_cases q2 : Y 10 0 i = Y 0 0 5
    · rw [if_pos q2, if_pos q2]
      have hp0 := hnp q2
      have fx : bb_fr (fun k _ => k == 1 || k == 2) (bb_rel X i) X := by
        have := bb_rels1_fr (X := X) (i := i)
        unfold bb_rels1 at this
        rw [e1, if_neg q, e5, hnow, if_pos q2] at this
        exact this
      have fy : bb_fr (fun k _ => k == 17 || k == 18 || k == 19 || k == 20 || k == 21 || k == 22 || k == 11 || k == 10) (mm_rl Y i) Y := by
        have := mm_rls1_fr (X := Y) (i := i)
        unfold mm_rls1 at this
        rw [if_neg q, if_pos q2] at this
        exact this
      have x4 : X 1 i 4 = Y 9 0 i := ht 4 (by decide) (by decide) i hi
      have x2 : X 1 i 2 = Y 7 0 i := ht 2 (by decide) (by decide) i hi
      have x6 : X 1 i 6 = Y 11 0 i := ht 6 (by decide) (by decide) i hi
      have yo : ∀ r j, ¬ j = i → mm_rl Y i r 0 j = Y r 0 j := by
        intro r j z
        unfold mm_rl mm_r6 mm_r5 mm_r4 mm_r3 mm_r2 mm_r1
        simp only [db_up, z, and_false, if_false]
      have xo : ∀ k j f, ¬ j = i → bb_rel X i k j f = X k j f := by
        intro k j f z
        unfold bb_rel bb_rel3 bb_rel2 bb_begin
        simp only [db_up, z, and_false, false_and, if_false]
      have y17 : mm_rl Y i 17 0 i = 1 := by simp [mm_rl, mm_r6, mm_r5, mm_r4, mm_r3, mm_r2, mm_r1, db_up]
      have y18 : mm_rl Y i 18 0 i = Y 0 0 5 := by simp [mm_rl, mm_r6, mm_r5, mm_r4, mm_r3, mm_r2, mm_r1, db_up]
      have y19 : mm_rl Y i 19 0 i = Y 0 0 5 + Y 9 0 i := by simp [mm_rl, mm_r6, mm_r5, mm_r4, mm_r3, mm_r2, mm_r1, db_up]
      have y20 : mm_rl Y i 20 0 i = 0 := by simp [mm_rl, mm_r6, mm_r5, mm_r4, mm_r3, mm_r2, mm_r1, db_up]
      have y21 : mm_rl Y i 21 0 i = -1 := by simp [mm_rl, mm_r6, mm_r5, mm_r4, mm_r3, mm_r2, mm_r1, db_up]
      have y22 : mm_rl Y i 22 0 i = 0 := by simp [mm_rl, mm_r6, mm_r5, mm_r4, mm_r3, mm_r2, mm_r1, db_up]
      have y11 : mm_rl Y i 11 0 i = Y 11 0 i + 1 := by simp [mm_rl, mm_r6, mm_r5, mm_r4, mm_r3, mm_r2, mm_r1, db_up]
      have y10 : mm_rl Y i 10 0 i = Y 10 0 i + Y 7 0 i := by simp [mm_rl, mm_r6, mm_r5, mm_r4, mm_r3, mm_r2, mm_r1, db_up]
      have w0 : bb_rel X i 2 i 0 = 1 := by simp [bb_rel, bb_rel3, bb_rel2, bb_begin, db_up]
      have w1 : bb_rel X i 2 i 1 = X 1 i 5 := by simp [bb_rel, bb_rel3, bb_rel2, bb_begin, db_up]
      have w2 : bb_rel X i 2 i 2 = X 1 i 5 + X 1 i 4 := by simp [bb_rel, bb_rel3, bb_rel2, bb_begin, db_up]
      have w3 : bb_rel X i 2 i 3 = 0 := by simp [bb_rel, bb_rel3, bb_rel2, bb_begin, db_up]
      have w4 : bb_rel X i 2 i 4 = -1 := by simp [bb_rel, bb_rel3, bb_rel2, bb_begin, db_up]
      have w6 : bb_rel X i 2 i 6 = 0 := by simp [bb_rel, bb_rel3, bb_rel2, bb_begin, db_up]
      have w16 : bb_rel X i 1 i 6 = X 1 i 6 + 1 := by simp [bb_rel, bb_rel3, bb_rel2, bb_begin, db_up]
      have w15 : bb_rel X i 1 i 5 = X 1 i 5 + X 1 i 2 := by simp [bb_rel, bb_rel3, bb_rel2, bb_begin, db_up]
      have w1o : ∀ f, ¬ f = 5 → ¬ f = 6 → bb_rel X i 1 i f = X 1 i f := by
        intro f h5 h6
        simp [bb_rel, bb_rel3, bb_rel2, bb_begin, db_up, h5, h6]
      have hJ : rr_J N (bb_rel X i) (mm_rl Y i) := by
        intro j hj
        rw [fy 6 0 j rfl]
        by_cases z : j = i
        · subst z
          rw [y17, y21, y22, w6, w4]
          exact ⟨fun _ => q, fun _ => rfl, fun _ => ⟨rfl, rfl, Or.inl rfl⟩⟩
        · rw [yo 17 j z, yo 21 j z, yo 22 j z, xo 2 j 6 z, xo 2 j 4 z]
          exact hc.2.2.2.2 j hj
      have hcc : rc N (bb_rel X i) (mm_rl Y i) := by
        refine ⟨fun f hf j hj => ?_, hc.2.1.fr (fun k => fx 3 0 k rfl) (fun k => fy 23 0 k rfl), fun j hj => ?_, fun k hk => by rw [fy 23 0 k rfl]; exact hc.2.2.2.1 k hk, hJ⟩
        · by_cases z : j = i
          · subst z
            have hs : f = 0 ∨ f = 1 ∨ f = 2 ∨ f = 3 := by omega
            rcases hs with rfl | rfl | rfl | rfl
            · exact w0.trans y17.symm
            · exact (w1.trans (e5.trans q2)).trans y18.symm
            · rw [w2, e5, q2, x4]; exact y19.symm
            · exact w3.trans y20.symm
          · rw [yo _ j z, xo 2 j f z]
            exact hc.1 f hf j hj
        · by_cases z : j = i
          · subst z; exact Or.inl y21
          · rw [yo 21 j z]; exact hc.2.2.1 j hj
      refine ⟨hcc, fun f h1 h2 j hj => ?_, ?_, hS.fr (bb_sec_fr fx (fun _ => rfl) (fun _ => rfl)) (fun r s hr => fy r 0 s (by simp; omega)), ?_⟩
      · by_cases z : j = i
        · subst z
          by_cases z5 : f = 5
          · subst z5
            rw [w15, e5, x2]; exact y10.symm
          · by_cases z6 : f = 6
            · subst z6
              rw [w16, x6]; exact y11.symm
            · rw [w1o f z5 z6, fy (f + 5) 0 j (by simp; omega)]
              exact ht f h1 h2 j hj
        · rw [yo _ j z, xo 1 j f z]; exact ht f h1 h2 j hj
      · rw [fx 0 0 6 rfl, fy 0 0 5 rfl]; exact hnow
      · obtain ⟨l1, l2, l3, l4⟩ := hL
        have hin : ∀ {j s u}, rr_in (mm_rl Y i) j s u ↔ rr_in Y j s u := rr_in.fr (fun r s a b => fy r 0 s (by simp; omega))
        refine ⟨fun j hj => ?_, fun j s hj hs => ?_, fun k j hk hj => ?_, fun j k hj hk => ?_⟩
        · rw [fy 8 0 j rfl]
          by_cases z : j = i
          · subst z
            intro _
            obtain ⟨p', w', d', g1, g2, g3, g4, g5, g6, g7⟩ := hV j hj q
            exact ⟨0, by rw [y20, nI_0], by rw [g6, nI_clamp (by omega)]; exact g1⟩
          · rw [yo 17 j z, yo 20 j z]; exact l1 j hj
        · rw [fy 27 0 s rfl, fy 26 0 s rfl, fy 23 0 _ rfl, hin]
          by_cases z : j = i
          · subst z
            rw [y20]
            intro _ _ g
            have : (0 : Int32).toNatClampNeg = 0 := by decide
            omega
          · rw [yo 17 j z, yo 20 j z]; exact l2 j s hj hs
        · rw [fy 23 0 k rfl]
          intro e
          obtain ⟨g1, s, g2, g3, g4⟩ := l3 k j hk hj e
          by_cases z : j = i
          · subst z; exact absurd hp0 g1
          · rw [yo 17 j z, yo 20 j z]
            exact ⟨g1, s, g2, hin.mpr g3, by rw [fy 26 0 s rfl]; exact g4⟩
        · by_cases z : j = i
          · subst z
            rw [y21]
            intro _ e
            exact absurd e.symm (nI_ne1 (by omega))
          · rw [yo 17 j z, yo 21 j z, yo 20 j z]
            intro hpp e
            obtain ⟨s, g2, g3, g4⟩ := l4 j k hj hk hpp e
            exact ⟨s, g2, hin.mpr g3, by rw [fy 26 0 s rfl]; exact g4⟩
    · rw [if_neg q2, if_neg q2]; exact ⟨hc, ht, hnow, hS, hL⟩
theorem mm_rls1_o {Y : db_X} {i j r : Nat} (z : ¬ j = i) : mm_rls1 Y i r 0 j = Y r 0 j := by
  unfold mm_rls1
  split
  · rfl
  · split
    · unfold mm_rl mm_r6 mm_r5 mm_r4 mm_r3 mm_r2 mm_r1
      simp only [db_up, z, and_false, if_false]
    · rfl
theorem mm_rls_o {Y : db_X} {j r : Nat} : ∀ n, n ≤ j → mm_rls Y n r 0 j = Y r 0 j
  | 0, _ => rfl
  | n + 1, h => (mm_rls1_o (by omega)).trans (mm_rls_o n (by omega))
theorem mm_rls_5 {Y : db_X} (n : Nat) : mm_rls Y n 0 0 5 = Y 0 0 5 := mm_rls_fr n 0 0 5 rfl
theorem mm_rls_a {Y : db_X} {j r : Nat} : ∀ n, j < n → mm_rls Y n r 0 j = mm_rls1 (mm_rls Y j) j r 0 j
  | 0, h => absurd h (by omega)
  | n + 1, h => by
    by_cases q : j = n
    · subst q; rfl
    · exact (mm_rls1_o q).trans (mm_rls_a n (by omega))
theorem mm_V.fr {N : Nat → Nat} {Y Y' : db_X} (h : mm_V N Y) (hy : ∀ r i, 6 ≤ r → r ≤ 9 → Y' r 0 i = Y r 0 i) : mm_V N Y' := by
  intro i hi
  rw [hy 6 i (by decide) (by decide), hy 7 i (by decide) (by decide), hy 8 i (by decide) (by decide), hy 9 i (by decide) (by decide)]
  exact h i hi
theorem rels_all {N : Nat → Nat} {X Y : db_X} {sz : Nat} (hN : bb_N N) (h : re N X Y sz) (hV : mm_V N Y) (hnp : ∀ i, i < N 0 → Y 10 0 i = Y 0 0 5 → Y 17 0 i = 0) : ∀ n, n ≤ N 0 → re N (bb_rels X n) (mm_rls Y n) sz
  | 0, _ => h
  | n + 1, hn => by
    refine rels_step hN (by omega) (rels_all hN h hV hnp n (by omega)) (hV.fr (fun r i h1 h2 => mm_rls_fr n r 0 i (by simp; omega))) ?_
    rw [mm_rls_o n (Nat.le_refl _), mm_rls_o n (Nat.le_refl _), mm_rls_5]
    exact hnp n (by omega)
/-- from now on the next tick's rule of times holds -/
theorem rels_D {N : Nat → Nat} {Y : db_X} {th : Nat} (hN : bb_N N) (hV : mm_V N Y) (hth : Y 0 0 5 = nI th) (hb : th ≤ 20000) (hD : rr_D N Y th) (hnd : ∀ i, i < N 0 → ¬ Y 17 0 i = 0 → ¬ Y 19 0 i = Y 0 0 5) (hlv : ∀ i, i < N 0 → ¬ Y 17 0 i = 0 → ¬ Y 6 0 i = 0) : rr_D N (mm_rls Y (N 0)) (th + 1) := by
  intro i hi
  have e6 : mm_rls Y (N 0) 6 0 i = Y 6 0 i := mm_rls_fr _ 6 0 i rfl
  have ho : ∀ r, mm_rls Y i r 0 i = Y r 0 i := fun r => mm_rls_o i (Nat.le_refl _)
  rw [e6, mm_rls_a (N 0) hi, mm_rls_a (N 0) hi, mm_rls_a (N 0) hi]
  obtain ⟨d1, d2⟩ := hD i hi
  unfold mm_rls1
  rw [ho 6, ho 10, mm_rls_5]
  by_cases q : Y 6 0 i = 0
  · rw [if_pos q, ho, ho, ho]
    exact ⟨fun z => absurd q z, fun z => absurd q (hlv i hi z)⟩
  · rw [if_neg q]
    obtain ⟨x, ex, hx1, hx2⟩ := d1 q
    obtain ⟨p', w', d', g1, g2, g3, g4, g5, g6, g7⟩ := hV i hi q
    by_cases q2 : Y 10 0 i = Y 0 0 5
    · rw [if_pos q2]
      have y10 : mm_rl (mm_rls Y i) i 10 0 i = nI (th + p') := by
        have : mm_rl (mm_rls Y i) i 10 0 i = mm_rls Y i 10 0 i + mm_rls Y i 7 0 i := by simp [mm_rl, mm_r6, mm_r5, mm_r4, mm_r3, mm_r2, mm_r1, db_up]
        rw [this, ho, ho, q2, hth, g5, nI_add]
      have y19 : mm_rl (mm_rls Y i) i 19 0 i = nI (th + d') := by
        have : mm_rl (mm_rls Y i) i 19 0 i = mm_rls Y i 0 0 5 + mm_rls Y i 9 0 i := by simp [mm_rl, mm_r6, mm_r5, mm_r4, mm_r3, mm_r2, mm_r1, db_up]
        rw [this, ho, mm_rls_5, hth, g7, nI_add]
      rw [y10, y19]
      exact ⟨fun _ => ⟨th + p', rfl, by omega, by omega⟩, fun _ => ⟨th + d', th + p', rfl, rfl, by omega, by omega, by omega⟩⟩
    · rw [if_neg q2, ho, ho, ho]
      have hx3 : ¬ x = th := fun z => q2 (by rw [ex, hth, z])
      refine ⟨fun _ => ⟨x, ex, by omega, by omega⟩, fun z => ?_⟩
      obtain ⟨d, x', g8, g9, g10, g11, g12⟩ := d2 z
      have hd : ¬ d = th := fun z2 => hnd i hi z (by rw [g8, hth, z2])
      exact ⟨d, x', g8, g9, by omega, g11, by omega⟩
theorem cw_step {N : Nat → Nat} {X Y : db_X} {i : Nat} {r : Int32} (hN : bb_N N) (hi : i < N 0) (hc : rc N X Y) (ht : rt1 N X Y) : rc N (bb_cw2 r X i) (mm_ct1 N r Y i) ∧ rt1 N (bb_cw2 r X i) (mm_ct1 N r Y i) := by
  have hn : N 0 < 2 ^ 31 := by have := hN.2.1; omega
  have hp := rr_isPn hn hc.2.2.2.2 hi
  have e0 : X 2 i 0 = Y 17 0 i := hc.1 0 (by decide) i hi
  have e9 : X 1 i 9 = Y 14 0 i := ht 9 (by decide) (by decide) i hi
  have e10 : X 1 i 10 = Y 15 0 i := ht 10 (by decide) (by decide) i hi
  have fx : bb_fr (fun k f => k == 1 || (k == 2 && f == 6)) (bb_cw2 r X i) X := by
    unfold bb_cw2
    refine (bb_fr.up rfl).tr ?_
    unfold bb_cw1
    split
    · exact bb_fr.up rfl
    · split
      · exact bb_fr.up rfl
      · exact bb_fr.rf
  have fy := mm_ct1_fr (N := N) (r := r) (X := Y) (i := i)
  have y22 : ∀ j, mm_ct1 N r Y i 22 0 j = if j = i then (if ¬ mm_isP N Y (nI i) = 0 ∧ r = nI i then 1 else 0) else Y 22 0 j := by
    intro j
    unfold mm_ct1 mm_c3
    by_cases z : j = i
    · rw [if_pos z, z, up_at]
    · rw [if_neg z, up_f z]
      unfold mm_c2
      split
      · rw [up_k (by decide)]
        unfold mm_c1
        split
        · rw [up_k (by decide)]
        · rfl
      · unfold mm_c1
        split
        · rw [up_k (by decide)]
        · rfl
  have x6 : ∀ j, bb_cw2 r X i 2 j 6 = if j = i then (if nI i = r then 1 else 0) else X 2 j 6 := by
    intro j
    unfold bb_cw2
    by_cases z : j = i
    · rw [if_pos z, z, up_at]
    · rw [if_neg z, up_i z]
      unfold bb_cw1
      split
      · rw [up_k (by decide)]
      · split
        · rw [up_k (by decide)]
        · rfl
  refine ⟨⟨hc.1.fr (fun j f hf => fx 2 j f (by simp; omega)) (fun k j h1 h2 => fy k 0 j (by simp; omega)), hc.2.1.fr (fun k => fx 3 0 k rfl) (fun k => fy 23 0 k rfl), fun j hj => by rw [fy 21 0 j rfl]; exact hc.2.2.1 j hj, fun k hk => by rw [fy 23 0 k rfl]; exact hc.2.2.2.1 k hk, fun j hj => ?_⟩, ?_⟩
  · rw [fy 17 0 j rfl, fy 6 0 j rfl, fy 21 0 j rfl, y22, x6, fx 2 j 4 rfl]
    obtain ⟨a, b, c⟩ := hc.2.2.2.2 j hj
    refine ⟨a, b, fun z => ⟨?_, (c z).2⟩⟩
    by_cases w : j = i
    · subst w
      rw [if_pos rfl, if_pos rfl]
      by_cases w2 : nI j = r
      · rw [if_pos w2, if_pos ⟨fun w3 => z (hp.mp w3), w2.symm⟩]
      · rw [if_neg w2, if_neg (fun w3 => w2 w3.2.symm)]
    · rw [if_neg w, if_neg w]; exact (c z).1
  · have c1 : rt1 N (bb_cw1 r X i) (mm_c2 (mm_isP N Y (nI i)) r (mm_c1 (mm_isP N Y (nI i)) Y i) i) := by
      unfold bb_cw1
      rw [e0, e9, e10]
      by_cases z : Y 17 0 i = 0
      · have z2 := hp.mpr z
        have k1 : mm_c1 (mm_isP N Y (nI i)) Y i = Y := if_neg (fun w => w.1 z2)
        have k2 : mm_c2 (mm_isP N Y (nI i)) r Y i = Y := if_neg (fun w => w.1 z2)
        rw [if_neg (fun w => w.1 z), if_neg (fun w => w.1 z), k1, k2]
        exact ht
      · have z2 : ¬ mm_isP N Y (nI i) = 0 := fun w => z (hp.mp w)
        obtain ⟨e6, e4, -⟩ := (hc.2.2.2.2 i hi).2.2 z
        rw [e4]
        by_cases z3 : Y 21 0 i = -1
        · have k1 : mm_c1 (mm_isP N Y (nI i)) Y i = Y := if_neg (fun w => w.2 z3)
          rw [if_neg (fun w => w.2 z3), e6, k1]
          by_cases z4 : ¬ Y 22 0 i = 0 ∧ ¬ r = -1 ∧ ¬ r = nI i
          · have k2 : mm_c2 (mm_isP N Y (nI i)) r Y i = db_up Y 15 0 i (Y 15 0 i + 1) := if_pos ⟨z2, z4.1, z3, z4.2.1, z4.2.2⟩
            rw [if_pos ⟨z, z4.1, fun w => z4.2.2 w.symm, z4.2.1⟩, k2]
            exact ht.up rfl rfl
          · have k2 : mm_c2 (mm_isP N Y (nI i)) r Y i = Y := if_neg (fun w => z4 ⟨w.2.1, w.2.2.2.1, w.2.2.2.2⟩)
            rw [if_neg (fun w => z4 ⟨w.2.1, w.2.2.2, fun w2 => w.2.2.1 w2.symm⟩), k2]
            exact ht
        · have k1 : mm_c1 (mm_isP N Y (nI i)) Y i = db_up Y 14 0 i (Y 14 0 i + 1) := if_pos ⟨z2, z3⟩
          have k2 : mm_c2 (mm_isP N Y (nI i)) r (db_up Y 14 0 i (Y 14 0 i + 1)) i = db_up Y 14 0 i (Y 14 0 i + 1) := if_neg (fun w => z3 (by
            have := w.2.2.1
            rw [up_k (by decide)] at this
            exact this))
          rw [if_pos ⟨z, z3⟩, k1, k2]
          exact ht.up rfl rfl
    unfold bb_cw2 mm_ct1 mm_c3
    exact c1.fr (fun j f => up_k (by decide)) (fun k j _ _ => up_k (by omega))
theorem cw_all {N : Nat → Nat} {X Y : db_X} {r : Int32} (hN : bb_N N) (hc : rc N X Y) (ht : rt1 N X Y) : ∀ n, n ≤ N 0 → rc N (bb_cw r X n) (mm_ct N r Y n) ∧ rt1 N (bb_cw r X n) (mm_ct N r Y n)
  | 0, _ => ⟨hc, ht⟩
  | n + 1, hn => by
    obtain ⟨a, b⟩ := cw_all (r := r) hN hc ht n (by omega)
    exact cw_step hN (by omega) a b
