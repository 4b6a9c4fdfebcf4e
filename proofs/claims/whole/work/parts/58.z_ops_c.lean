/-! a section comes -/
theorem nI_sub_neg {a b : Nat} (h : a < b) (hb : b < 2 ^ 31) : nI a - nI b < 0 := by
  rw [Int32.lt_iff_toInt_lt, Int32.toInt_sub, nI_toInt (by omega), nI_toInt hb, Int.bmod_def]
  have e0 : (0 : Int32).toInt = 0 := by decide
  rw [e0]
  split <;> omega
theorem bb_newS_at {X : db_X} {cnt : Nat} {t b k g : Int32} : bb_newS X cnt t b k g 12 cnt 0 = t ∧ bb_newS X cnt t b k g 12 cnt 1 = b ∧ bb_newS X cnt t b k g 12 cnt 2 = k ∧ bb_newS X cnt t b k g 12 cnt 3 = g ∧ bb_newS X cnt t b k g 12 cnt 4 = b + g := by
  refine ⟨?_, ?_, ?_, ?_, ?_⟩ <;> simp [bb_newS, db_up]
theorem rr_newS {N : Nat → Nat} {X Y : db_X} {sz cnt th tm la : Nat} (h : rr N X Y sz cnt th tm la) (hcn : cnt < 2 ^ 31) (t b k g : Int32) : rr N (bb_newS X cnt t b k g) Y sz (cnt + 1) th tm la := by
  have xo : ∀ k' i f, ¬ k' = 12 → bb_newS X cnt t b k g k' i f = X k' i f := fun k' i f z => congrFun (bb_newS_o (fun w => z w.1)) f
  have sec : ∀ p f, p < sz → bb_sec (bb_newS X cnt t b k g) p f = bb_sec X p f := by
    intro p f hp
    unfold bb_sec
    rw [xo 5 0 p (by decide), congrFun (bb_newS_o (fun w => by have := (h.bI.2.2.2.2 p hp).1.lt hcn; omega)) f]
  have hc : rc N (bb_newS X cnt t b k g) Y := h.rc.fr (fun i f _ => xo 2 i f (by decide)) (fun q => xo 3 0 q (by decide)) (fun _ _ _ => rfl)
  have ht : rt1 N (bb_newS X cnt t b k g) Y := h.t.t1.fr (fun i f => xo 1 i f (by decide)) (fun _ _ _ _ => rfl)
  have hS : rr_S N (bb_newS X cnt t b k g) Y sz := by
    obtain ⟨⟨π, hP⟩, h2, h3⟩ := h.s
    refine ⟨⟨π, hP.1, hP.2.1, fun p hp => ?_, hP.2.2.2⟩, h2, h3⟩
    rw [sec p 0 hp, sec p 1 hp, sec p 2 hp, sec p 3 hp, sec p 4 hp]
    exact hP.2.2.1 p hp
  refine ⟨rr_T_of ht hc.1, hc.2.1, ⟨?_, ?_, ?_, ?_, ?_, fun j => ?_, fun j => ?_, fun j => ?_⟩, h.bI.newS hcn, h.mI, fun p => ?_, ?_, ?_, ?_, bb_V_of ht h.mV, hc.2.2.2.2, hS, h.l, h.d⟩
  · rw [xo 0 0 5 (by decide)]; exact h.z.1
  · rw [xo 0 0 6 (by decide)]; exact h.z.2.1
  · rw [xo 0 0 7 (by decide)]; exact h.z.2.2.1
  · rw [xo 6 0 2 (by decide)]; exact h.z.2.2.2.1
  · rw [xo 9 0 1 (by decide)]; exact h.z.2.2.2.2.1
  · rw [xo 7 0 j (by decide)]; exact h.z.2.2.2.2.2.1 j
  · rw [xo 8 0 j (by decide)]; exact h.z.2.2.2.2.2.2.1 j
  · rw [xo 10 0 j (by decide)]; exact h.z.2.2.2.2.2.2.2 j
  · rw [xo 5 0 p (by decide)]
    rcases h.rw p with w | ⟨j, hj, e⟩
    · exact Or.inl w
    · exact Or.inr ⟨j, by omega, e⟩
  · rw [xo 0 0 5 (by decide)]; exact h.la
  · rw [xo 0 0 6 (by decide), xo 9 0 1 (by decide)]; exact h.th
  · rw [xo 6 0 2 (by decide)]; exact h.tm
theorem asg_cases {N : Nat → Nat} {X Y : db_X} {sz cnt th tm la : Nat} (hN : bb_N N) (h : rr N X Y sz cnt th tm la) (t b k g : Int32) : (bb_asg N X t b k g = 0 ∧ mm_asg N Y t b k g = 0) ∨ ∃ i b' g' k' w : Nat, i < N 0 ∧ t = nI i ∧ k' < N 1 ∧ k = nI k' ∧ b = nI b' ∧ g = nI g' ∧ 1 ≤ g' ∧ b' + g' ≤ w ∧ w ≤ 20000 ∧ Y 8 0 i = nI w ∧ ¬ Y 6 0 i = 0 ∧ Y 17 0 i = 0 ∧ bb_asg N X t b k g = 1 ∧ mm_asg N Y t b k g = if sz = N 2 then 0 else 1 := by
  have hn : N 0 < 2 ^ 31 := by have := hN.2.1; omega
  have hn1 : N 1 < 2 ^ 31 := by have := hN.2.2.1; omega
  have hn2 := hN.2.2.2.1
  have hsz : sz ≤ N 2 := h.mI.2.2.2.1
  unfold bb_asg mm_asg
  rw [rr_isLive hn h.t]
  by_cases q1 : mm_isLive N Y t = 0
  · rw [if_pos q1, if_pos q1]; exact Or.inl ⟨rfl, rfl⟩
  · rw [if_neg q1, if_neg q1]
    by_cases q2 : bb_isLock N k = 0
    · rw [if_pos q2, if_pos q2]; exact Or.inl ⟨rfl, rfl⟩
    · rw [if_neg q2, if_neg q2]
      obtain ⟨i, hi, rfl⟩ := mm_isLive_ix hn q1
      obtain ⟨k', hk, rfl⟩ := bb_isLock_ix hn1 q2
      have hlive : ¬ Y 6 0 i = 0 := by
        intro z
        refine q1 ?_
        unfold mm_isLive
        rw [db_nIc hi hn, z]
        simp
      rw [db_nIc hi hn]
      obtain ⟨p', w, d', g1, g2, g3, g4, g5, g6, g7⟩ := h.mV i hi hlive
      have e0 : X 2 i 0 = Y 17 0 i := h.t.t2 0 (by decide) i hi
      have e3 : X 1 i 3 = nI w := (h.t.t1 3 (by decide) (by decide) i hi).trans g6
      rw [e0, e3, g6, h.mI.2.2.1]
      by_cases q7 : Y 17 0 i = 0
      · have c7 : ¬ ¬ Y 17 0 i = 0 := fun z => z q7
        rw [if_neg c7, if_pos q7]
        by_cases q3 : b < 0
        · rw [if_pos q3, if_pos q3]
          exact Or.inl ⟨rfl, rfl⟩
        · rw [if_neg q3, if_neg q3]
          by_cases q4 : g < 1
          · rw [if_pos q4, if_pos (Int32.not_le.mpr q4)]
            exact Or.inl ⟨rfl, rfl⟩
          · have c4 : ¬ ¬ (1 : Int32) ≤ g := fun z => z (Int32.not_lt.mp q4)
            rw [if_neg q4, if_neg c4]
            obtain ⟨b', hb', rfl⟩ := nI_of q3
            have q5 : ¬ g < 0 := fun z => q4 (Int32.lt_trans z (by decide))
            obtain ⟨g', hg', rfl⟩ := nI_of q5
            have hg1 : 1 ≤ g' := by
              by_cases z : 1 ≤ g'
              · exact z
              · refine absurd ?_ q4
                rw [show g' = 0 by omega]
                decide
            by_cases q6 : b' + g' ≤ w
            · have c1 : nI g' ≤ nI w - nI b' := by rw [pk_sub (by omega)]; exact nI_le (by omega) (by omega)
              have c2 : ¬ nI w < nI g' := nI_nlt (by omega) (by omega)
              have c3 : ¬ nI w - nI g' < nI b' := by rw [pk_sub (by omega)]; exact nI_nlt (by omega) (by omega)
              rw [if_pos c1, if_neg c2, if_neg c3]
              refine Or.inr ⟨i, b', g', k', w, hi, rfl, hk, rfl, rfl, rfl, hg1, q6, by omega, g6, hlive, q7, rfl, ?_⟩
              by_cases q8 : sz = N 2
              · rw [if_pos q8, if_pos (by rw [q8])]
              · have c8 : ¬ nI sz = nI (N 2) := fun z => q8 ((nI_eq (by omega) (by omega)).mp z)
                rw [if_neg q8, if_neg c8]
            · refine Or.inl ⟨?_, ?_⟩
              · rw [if_neg]
                intro z
                by_cases q9 : b' ≤ w
                · rw [pk_sub q9, nI_leI hg' (by omega)] at z
                  omega
                · have := nI_sub_neg (a := w) (b := b') (by omega) hb'
                  have z2 := Int32.lt_of_le_of_lt z this
                  exact nI_pos hg' z2
              · by_cases q9 : g' ≤ w
                · have c2 : ¬ nI w < nI g' := nI_nlt (by omega) (by omega)
                  have c3 : nI w - nI g' < nI b' := by rw [pk_sub q9]; exact nI_lt (by omega) hb'
                  rw [if_neg c2, if_pos c3]
                · rw [if_pos (nI_lt (by omega) hg')]
      · rw [if_pos q7, if_neg q7]
        refine Or.inl ⟨rfl, ?_⟩
        split
        · rfl
        · split
          · rfl
          · split
            · rfl
            · split
              · rfl
              · split <;> rfl
theorem bb_clF_all {X : db_X} {c : Nat} : ∀ (q u : Nat), bb_clF X c q u = 0 ↔ ∀ p, u ≤ p → p < u + q → bb_cl X (X 5 0 p).toNatClampNeg c = 0
  | 0, u => ⟨fun _ p h1 h2 => absurd h2 (by omega), fun _ => rfl⟩
  | q + 1, u => by
    unfold bb_clF
    by_cases z : bb_cl X (X 5 0 u).toNatClampNeg c = 0
    · rw [if_pos z, bb_clF_all q (u + 1)]
      constructor
      · intro w p h1 h2
        by_cases y : p = u
        · rw [y]; exact z
        · exact w p (by omega) (by omega)
      · intro w p h1 h2
        exact w p (by omega) (by omega)
    · rw [if_neg z]
      constructor
      · intro w; exact absurd w (by decide)
      · intro w; exact absurd (w u (Nat.le_refl _) (by omega)) z
theorem mm_asF_all {Y : db_X} {t b k l : Int32} : ∀ (q u : Nat), ¬ mm_asF Y t b k l q u = 0 ↔ ∀ s, u ≤ s → s < u + q → Y 25 0 s = t → ¬ mm_may Y s b (b + l) k = 0
  | 0, u => ⟨fun _ p h1 h2 => absurd h2 (by omega), fun _ => by unfold mm_asF; decide⟩
  | q + 1, u => by
    unfold mm_asF
    by_cases z : Y 25 0 u = t
    · rw [if_neg (fun w => w z)]
      by_cases y : mm_may Y u b (b + l) k = 0
      · rw [if_neg (fun w => w y)]
        constructor
        · intro w; exact absurd rfl w
        · intro w; exact absurd y (w u (Nat.le_refl _) (by omega) z)
      · rw [if_pos y, mm_asF_all q (u + 1)]
        constructor
        · intro w p h1 h2 h3
          by_cases x : p = u
          · rw [x]; exact y
          · exact w p (by omega) (by omega) h3
        · intro w p h1 h2
          exact w p (by omega) (by omega)
    · rw [if_pos z, mm_asF_all q (u + 1)]
      constructor
      · intro w p h1 h2 h3
        by_cases x : p = u
        · rw [x] at h3; exact absurd h3 z
        · exact w p (by omega) (by omega) h3
      · intro w p h1 h2
        exact w p (by omega) (by omega)
theorem cl_may {X Y : db_X} {a c s : Nat} {t b k g : Int32} (a0 : X 12 a 0 = Y 25 0 s) (a1 : X 12 a 1 = Y 27 0 s) (a2 : X 12 a 2 = Y 26 0 s) (a4 : X 12 a 4 = Y 27 0 s + Y 28 0 s) (c0 : X 12 c 0 = t) (c1 : X 12 c 1 = b) (c2 : X 12 c 2 = k) (c4 : X 12 c 4 = b + g) :
    bb_cl X a c = 0 ↔ (Y 25 0 s = t → ¬ mm_may Y s b (b + g) k = 0) := by
  unfold bb_cl bb_ov bb_nes bb_cov mm_may mm_wi
  rw [a0, a1, a2, a4, c0, c1, c2, c4]
  generalize Y 27 0 s + Y 28 0 s = E
  generalize Y 27 0 s = B
  generalize b + g = e
  by_cases p1 : Y 25 0 s = t
  · have p1' : ¬ ¬ Y 25 0 s = t := fun z => z p1
    rw [if_neg p1']
    simp only [p1, true_implies]
    by_cases p5 : E ≤ b
    · by_cases p6 : e ≤ B <;> simp [p5, p6]
    · by_cases p6 : e ≤ B
      · simp [p5, p6, Int32.not_lt.mpr p6]
      · have p6' := Int32.not_le.mp p6
        simp only [p5, p6, p6', if_true, if_false]
        by_cases p2 : e ≤ E
        · have p2' := Int32.not_lt.mpr p2
          by_cases p7 : b < B
          · by_cases p8 : B < b
            · exact absurd (Int32.lt_trans p7 p8) Int32.lt_irrefl
            · by_cases p9 : e < E <;> by_cases p10 : Y 26 0 s = k <;> simp [p2, p2', p7, p8, p9, p10]
          · by_cases p10 : Y 26 0 s = k <;> simp [p2, p2', p7, p10]
        · have p2' := Int32.not_le.mp p2
          by_cases p7 : b < B
          · by_cases p8 : B < b
            · exact absurd (Int32.lt_trans p7 p8) Int32.lt_irrefl
            · by_cases p9 : e < E <;> by_cases p10 : Y 26 0 s = k <;> simp [p2, p2', p7, p8, p9, p10]
          · by_cases p8 : B < b <;> by_cases p9 : e < E <;> by_cases p10 : Y 26 0 s = k <;> simp [p2, p2', p7, p8, p9, p10]
  · rw [if_pos p1, if_pos rfl]
    exact ⟨fun _ z => absurd z p1, fun _ => rfl⟩
/-- where the new one is put -/
theorem bb_gb_up {X : db_X} {a c p : Nat} {v : Int32} : bb_gb (db_up X 5 0 p v) a c = bb_gb X a c := by
  unfold bb_gb
  rw [up_k (by decide), up_k (by decide), up_k (by decide), up_k (by decide)]
theorem bb_insF_spec {c : Nat} : ∀ (v : Nat) (X : db_X), (bb_insF c v X).1 ≤ v ∧ (∀ k i f, ¬ k = 5 → (bb_insF c v X).2 k i f = X k i f) ∧ (∀ p, p < (bb_insF c v X).1 → (bb_insF c v X).2 5 0 p = X 5 0 p) ∧ (∀ p, (bb_insF c v X).1 ≤ p → p < v → (bb_insF c v X).2 5 0 (p + 1) = X 5 0 p ∧ ¬ bb_gb X c (X 5 0 p).toNatClampNeg = 0) ∧ (∀ p, v < p → (bb_insF c v X).2 5 0 p = X 5 0 p) ∧ (0 < (bb_insF c v X).1 → bb_gb X c (X 5 0 ((bb_insF c v X).1 - 1)).toNatClampNeg = 0) ∧ ∀ p, ∃ p0, (bb_insF c v X).2 5 0 p = X 5 0 p0
  | 0, X => ⟨Nat.le_refl _, fun _ _ _ _ => rfl, fun _ _ => rfl, fun p _ h => absurd h (by omega), fun _ _ => rfl, fun h => absurd h (by show ¬ 0 < 0; omega), fun p => ⟨p, rfl⟩⟩
  | v + 1, X => by
    unfold bb_insF
    by_cases z : bb_gb X c (X 5 0 v).toNatClampNeg = 0
    · rw [if_pos z]
      refine ⟨Nat.le_refl _, fun _ _ _ _ => rfl, fun _ _ => rfl, fun p h1 h2 => ?_, fun _ _ => rfl, fun _ => ?_, fun p => ⟨p, rfl⟩⟩
      · have h1 : v + 1 ≤ p := h1
        omega
      · show bb_gb X c (X 5 0 (v + 1 - 1)).toNatClampNeg = 0
        rw [Nat.add_sub_cancel]; exact z
    · rw [if_neg z]
      obtain ⟨h1, h2, h3, h4, h5, h6, h7⟩ := bb_insF_spec (c := c) v (db_up X 5 0 (v + 1) (X 5 0 v))
      have e5 : ∀ p, ¬ p = v + 1 → db_up X 5 0 (v + 1) (X 5 0 v) 5 0 p = X 5 0 p := fun p w => up_f w
      refine ⟨by omega, fun k i f hk => by rw [h2 k i f hk, up_k hk], fun p hp => by rw [h3 p hp, e5 p (by omega)], fun p hp hq => ?_, fun p hp => by rw [h5 p (by omega), e5 p (by omega)], fun hp => ?_, fun p => ?_⟩
      · by_cases w : p = v
        · subst w
          rw [h5 (p + 1) (by omega), up_at]
          exact ⟨rfl, z⟩
        · obtain ⟨a, b⟩ := h4 p hp (by omega)
          rw [e5 p (by omega), bb_gb_up] at b
          rw [a, e5 p (by omega)]
          exact ⟨rfl, b⟩
      · have := h6 hp
        rw [e5 _ (by omega), bb_gb_up] at this
        exact this
      · obtain ⟨p0, e⟩ := h7 p
        by_cases w : p0 = v + 1
        · rw [w, up_at] at e; exact ⟨v, e⟩
        · rw [e5 p0 w] at e; exact ⟨p0, e⟩
theorem rr_lt.tr {Y : db_X} {a b c : Nat} (h : rr_lt Y a b) (h2 : rr_lt Y b c) : rr_lt Y a c := by
  unfold rr_lt at *
  rcases h with h | ⟨e, h⟩
  · rcases h2 with h2 | ⟨e2, -⟩
    · exact Or.inl (Int32.lt_trans h h2)
    · rw [e2] at h; exact Or.inl h
  · rw [e]
    rcases h2 with h2 | ⟨e2, h2⟩
    · exact Or.inl h2
    · refine Or.inr ⟨e2, ?_⟩
      rcases h with h | ⟨f, h⟩
      · rcases h2 with h2 | ⟨f2, -⟩
        · exact Or.inl (Int32.lt_trans h2 h)
        · rw [← f2]; exact Or.inl h
      · rw [f]
        rcases h2 with h2 | ⟨f2, h2⟩
        · exact Or.inl h2
        · exact Or.inr ⟨f2, by omega⟩
theorem s_addSection {N : Nat → Nat} {X Y : db_X} {sz cnt th tm la : Nat} (hN : bb_N N) (h : rr N X Y sz cnt th tm la) (hcn : cnt + 1 < 2 ^ 31) (t b k g : Int32) : (bb_addSec N X sz cnt t b k g).1 = (mm_addSec N Y sz t b k g).1 ∧ ∃ sz', rr N (bb_addSec N X sz cnt t b k g).2.1 (mm_addSec N Y sz t b k g).2 sz' (bb_addSec N X sz cnt t b k g).2.2 th tm la := by
  have hn : N 0 < 2 ^ 31 := by have := hN.2.1; omega
  have hn1 := hN.2.2.1
  have hn2 := hN.2.2.2.1
  have hszN : sz ≤ N 2 := h.mI.2.2.2.1
  have h0 := rr_newS h (by omega) t b k g
  unfold bb_addSec mm_addSec
  rcases asg_cases hN h t b k g with ⟨e1, e2⟩ | ⟨i, b', g', k', w, hi, rfl, hk, rfl, rfl, rfl, hg1, hbg, hw, ew, hlive, hnp, e1, e2⟩
  · rw [if_pos e1, if_pos e2]; exact ⟨rfl, sz, h⟩
  · rw [if_neg (by rw [e1]; decide), e2]
    obtain ⟨c0, c1, c2, c3, c4⟩ := bb_newS_at (X := X) (cnt := cnt) (t := nI i) (b := nI b') (k := nI k') (g := nI g')
    generalize bb_newS X cnt (nI i) (nI b') (nI k') (nI g') = X1 at *
    unfold bb_ins
    by_cases q8 : sz = N 2
    · rw [if_pos (by omega), if_pos q8, if_pos rfl]
      exact ⟨rfl, sz, h0⟩
    · have hlt : sz < N 2 := by omega
      rw [if_neg (by omega : ¬ N 2 ≤ sz), if_neg q8, if_neg (by decide : ¬ (1 : Int32) = 0)]
      obtain ⟨⟨π, hP⟩, hS1, hS2⟩ := h0.s
      have pair : ∀ p, p < sz → (bb_cl X1 (X1 5 0 p).toNatClampNeg cnt = 0 ↔ (Y 25 0 (π p) = nI i → ¬ mm_may Y (π p) (nI b') (nI b' + nI g') (nI k') = 0)) := by
        intro p hp
        obtain ⟨a0, a1, a2, a3, a4⟩ := hP.2.2.1 p hp
        exact cl_may a0 a1 a2 a4 c0 c1 c2 c4
      have hcl : bb_clF X1 cnt sz 0 = 0 ↔ ¬ mm_asF Y (nI i) (nI b') (nI k') (nI g') sz 0 = 0 := by
        rw [bb_clF_all, mm_asF_all]
        constructor
        · intro z s _ hs
          obtain ⟨p, hp, rfl⟩ := hP.sur (by omega : s < sz)
          exact (pair p hp).mp (z p (by omega) (by omega))
        · intro z p _ hp
          have hp : p < sz := by omega
          exact (pair p hp).mpr (z (π p) (by omega) (by have := hP.1 p hp; omega))
      by_cases q9 : bb_clF X1 cnt sz 0 = 0
      · rw [if_pos q9, if_neg (hcl.mp q9)]
        refine ⟨rfl, sz + 1, ?_⟩
        have nocl := (bb_clF_all sz 0).mp q9
        obtain ⟨f1, f2, f3, f4, f5, f6, f7⟩ := bb_insF_spec (c := cnt) sz X1
        show rr N (bb_ins2 cnt (bb_insF cnt sz X1)) (mm_put Y sz (nI i) (nI b') (nI k') (nI g')) (sz + 1) (cnt + 1) th tm la
        unfold bb_ins2
        generalize (bb_insF cnt sz X1).1 = pl at *
        generalize (bb_insF cnt sz X1).2 = X2 at *
        -- the class's numbers
        have x4 : bb_sz1 (db_up X2 5 0 pl (nI cnt)) 4 0 1 = nI (sz + 1) := by
          unfold bb_sz1
          rw [up_at, up_k (by decide), f2 4 0 1 (by decide), h0.bI.2.2.1, nI_1]
        have xo : ∀ k i f, ¬ k = 5 → ¬ k = 4 → bb_sz1 (db_up X2 5 0 pl (nI cnt)) k i f = X1 k i f := by
          intro k i f h5 h4
          unfold bb_sz1
          rw [up_k h4, up_k h5, f2 k i f h5]
        have x5n : bb_sz1 (db_up X2 5 0 pl (nI cnt)) 5 0 pl = nI cnt := by
          unfold bb_sz1
          rw [up_k (by decide), up_at]
        have x5o : ∀ p, ¬ p = pl → bb_sz1 (db_up X2 5 0 pl (nI cnt)) 5 0 p = X2 5 0 p := by
          intro p z
          unfold bb_sz1
          rw [up_k (by decide), up_f z]
        generalize bb_sz1 (db_up X2 5 0 pl (nI cnt)) = X3 at *
        have sl : ∀ p f, p < pl → bb_sec X3 p f = bb_sec X1 p f := by
          intro p f hp
          unfold bb_sec
          rw [x5o p (by omega), f3 p hp, xo 12 _ f (by decide) (by decide)]
        have sh : ∀ p f, pl ≤ p → p < sz → bb_sec X3 (p + 1) f = bb_sec X1 p f := by
          intro p f h1 h2
          unfold bb_sec
          rw [x5o (p + 1) (by omega), (f4 p h1 h2).1, xo 12 _ f (by decide) (by decide)]
        have sn : ∀ f, bb_sec X3 pl f = X1 12 cnt f := by
          intro f
          unfold bb_sec
          rw [x5n, nI_clamp (by omega), xo 12 _ f (by decide) (by decide)]
        -- the reference's numbers
        have yo : ∀ r s, ¬ (25 ≤ r ∧ r ≤ 28) → ¬ r = 0 → mm_put Y sz (nI i) (nI b') (nI k') (nI g') r 0 s = Y r 0 s := by
          intro r s h1 h2
          unfold mm_put mm_sz1
          rw [up_k h2, up_k (by omega), up_k (by omega), up_k (by omega), up_k (by omega)]
        have y0 : ∀ f, ¬ f = 24 → mm_put Y sz (nI i) (nI b') (nI k') (nI g') 0 0 f = Y 0 0 f := by
          intro f h1
          unfold mm_put mm_sz1
          rw [up_f h1, up_k (by decide), up_k (by decide), up_k (by decide), up_k (by decide)]
        have y24 : mm_put Y sz (nI i) (nI b') (nI k') (nI g') 0 0 24 = nI (sz + 1) := by
          unfold mm_put mm_sz1
          rw [up_at, up_k (by decide), up_k (by decide), up_k (by decide), up_k (by decide), h.mI.2.2.1, nI_1]
        have ys : ∀ r s, s < sz → 1 ≤ r → mm_put Y sz (nI i) (nI b') (nI k') (nI g') r 0 s = Y r 0 s := by
          intro r s hs hr
          have z : ¬ s = sz := by omega
          unfold mm_put mm_sz1
          rw [up_k (by omega), up_f z, up_f z, up_f z, up_f z]
        have y25 : mm_put Y sz (nI i) (nI b') (nI k') (nI g') 25 0 sz = nI i := by simp [mm_put, mm_sz1, db_up]
        have y26 : mm_put Y sz (nI i) (nI b') (nI k') (nI g') 26 0 sz = nI k' := by simp [mm_put, mm_sz1, db_up]
        have y27 : mm_put Y sz (nI i) (nI b') (nI k') (nI g') 27 0 sz = nI b' := by simp [mm_put, mm_sz1, db_up]
        have y28 : mm_put Y sz (nI i) (nI b') (nI k') (nI g') 28 0 sz = nI g' := by simp [mm_put, mm_sz1, db_up]
        generalize mm_put Y sz (nI i) (nI b') (nI k') (nI g') = Y3 at *
        have oldlt : ∀ a c, a < sz → c < sz → rr_lt Y a c → rr_lt Y3 a c := by
          intro a c ha hc z
          unfold rr_lt at z ⊢
          rw [ys 27 a ha (by decide), ys 27 c hc (by decide), ys 28 a ha (by decide), ys 28 c hc (by decide)]
          exact z
        have gbv : ∀ p, p < sz → bb_gb X1 cnt (X1 5 0 p).toNatClampNeg = if ¬ nI b' = Y 27 0 (π p) then (if Y 27 0 (π p) ≤ nI b' then 0 else 1) else (if nI g' ≤ Y 28 0 (π p) then 0 else 1) := by
          intro p hp
          obtain ⟨a0, a1, a2, a3, a4⟩ := hP.2.2.1 p hp
          have a1 : X1 12 (X1 5 0 p).toNatClampNeg 1 = Y 27 0 (π p) := a1
          have a3 : X1 12 (X1 5 0 p).toNatClampNeg 3 = Y 28 0 (π p) := a3
          unfold bb_gb
          rw [c1, c3, a1, a3]
        have low1 : ∀ p, p < sz → bb_gb X1 cnt (X1 5 0 p).toNatClampNeg = 0 → rr_lt Y3 (π p) sz := by
          intro p hp z
          have hps := hP.1 p hp
          rw [gbv p hp] at z
          unfold rr_lt
          rw [ys 27 _ hps (by decide), ys 28 _ hps (by decide), y27, y28]
          by_cases e : nI b' = Y 27 0 (π p)
          · have e' : ¬ ¬ nI b' = Y 27 0 (π p) := fun y => y e
            rw [if_neg e'] at z
            refine Or.inr ⟨e.symm, ?_⟩
            by_cases y : nI g' ≤ Y 28 0 (π p)
            · by_cases y2 : nI g' = Y 28 0 (π p)
              · exact Or.inr ⟨y2.symm, hps⟩
              · exact Or.inl (Int32.lt_of_le_of_ne y y2)
            · rw [if_neg y] at z; exact absurd z (by decide)
          · rw [if_pos e] at z
            by_cases y : Y 27 0 (π p) ≤ nI b'
            · exact Or.inl (Int32.lt_of_le_of_ne y (fun y2 => e y2.symm))
            · rw [if_neg y] at z; exact absurd z (by decide)
        have high : ∀ p, p < sz → ¬ bb_gb X1 cnt (X1 5 0 p).toNatClampNeg = 0 → rr_lt Y3 sz (π p) := by
          intro p hp z
          have hps := hP.1 p hp
          rw [gbv p hp] at z
          unfold rr_lt
          rw [ys 27 _ hps (by decide), ys 28 _ hps (by decide), y27, y28]
          by_cases e : nI b' = Y 27 0 (π p)
          · have e' : ¬ ¬ nI b' = Y 27 0 (π p) := fun y => y e
            rw [if_neg e'] at z
            refine Or.inr ⟨e, Or.inl ?_⟩
            by_cases y : nI g' ≤ Y 28 0 (π p)
            · rw [if_pos y] at z; exact absurd rfl z
            · exact Int32.not_le.mp y
          · rw [if_pos e] at z
            by_cases y : Y 27 0 (π p) ≤ nI b'
            · rw [if_pos y] at z; exact absurd rfl z
            · exact Or.inl (Int32.not_le.mp y)
        have low : ∀ p, p < pl → rr_lt Y3 (π p) sz := by
          intro p hp
          have a := low1 (pl - 1) (by omega) (f6 (by omega))
          by_cases z : p = pl - 1
          · rw [z]; exact a
          · exact (oldlt _ _ (hP.1 p (by omega)) (hP.1 (pl - 1) (by omega)) (hP.2.2.2 p (pl - 1) (by omega) (by omega))).tr a
        have hP3 : rr_P X3 Y3 (sz + 1) (fun p => if p < pl then π p else if p = pl then sz else π (p - 1)) := by
          have v1 : ∀ p, p < pl → (if p < pl then π p else if p = pl then sz else π (p - 1)) = π p := fun p z => if_pos z
          have v2 : (if pl < pl then π pl else if pl = pl then sz else π (pl - 1)) = sz := by rw [if_neg (by omega), if_pos rfl]
          have v3 : ∀ p, pl < p → (if p < pl then π p else if p = pl then sz else π (p - 1)) = π (p - 1) := fun p z => by rw [if_neg (by omega), if_neg (by omega)]
          refine ⟨fun p hp => ?_, fun p q hp hq e => ?_, fun p hp => ?_, fun p q hpq hq => ?_⟩
          · show (if p < pl then π p else if p = pl then sz else π (p - 1)) < sz + 1
            split
            · have := hP.1 p (by omega); omega
            · split
              · omega
              · have := hP.1 (p - 1) (by omega); omega
          · have e : (if p < pl then π p else if p = pl then sz else π (p - 1)) = (if q < pl then π q else if q = pl then sz else π (q - 1)) := e
            rcases Nat.lt_trichotomy p pl with z1 | z1 | z1
            · rw [v1 p z1] at e
              have r1 := hP.1 p (by omega)
              rcases Nat.lt_trichotomy q pl with z2 | z2 | z2
              · rw [v1 q z2] at e
                exact hP.2.1 p q (by omega) (by omega) e
              · subst z2; rw [v2] at e; omega
              · rw [v3 q z2] at e
                have := hP.2.1 p (q - 1) (by omega) (by omega) e
                omega
            · subst z1
              rw [v2] at e
              rcases Nat.lt_trichotomy q p with z2 | z2 | z2
              · rw [v1 q z2] at e
                have r2 := hP.1 q (by omega)
                omega
              · exact z2.symm
              · rw [v3 q z2] at e
                have r2 := hP.1 (q - 1) (by omega)
                omega
            · rw [v3 p z1] at e
              have r1 := hP.1 (p - 1) (by omega)
              rcases Nat.lt_trichotomy q pl with z2 | z2 | z2
              · rw [v1 q z2] at e
                have := hP.2.1 (p - 1) q (by omega) (by omega) e
                omega
              · subst z2; rw [v2] at e; omega
              · rw [v3 q z2] at e
                have := hP.2.1 (p - 1) (q - 1) (by omega) (by omega) e
                omega
          · show bb_sec X3 p 0 = Y3 25 0 (if p < pl then π p else if p = pl then sz else π (p - 1)) ∧ bb_sec X3 p 1 = Y3 27 0 (if p < pl then π p else if p = pl then sz else π (p - 1)) ∧ bb_sec X3 p 2 = Y3 26 0 (if p < pl then π p else if p = pl then sz else π (p - 1)) ∧ bb_sec X3 p 3 = Y3 28 0 (if p < pl then π p else if p = pl then sz else π (p - 1)) ∧ bb_sec X3 p 4 = Y3 27 0 (if p < pl then π p else if p = pl then sz else π (p - 1)) + Y3 28 0 (if p < pl then π p else if p = pl then sz else π (p - 1))
            rcases Nat.lt_trichotomy p pl with z1 | z1 | z1
            · have hps := hP.1 p (by omega)
              rw [v1 p z1, sl p 0 z1, sl p 1 z1, sl p 2 z1, sl p 3 z1, sl p 4 z1, ys 25 _ hps (by decide), ys 26 _ hps (by decide), ys 27 _ hps (by decide), ys 28 _ hps (by decide)]
              exact hP.2.2.1 p (by omega)
            · subst z1
              rw [v2, sn, sn, sn, sn, sn, c0, c1, c2, c3, c4, y25, y26, y27, y28]
              exact ⟨rfl, rfl, rfl, rfl, rfl⟩
            · have hps := hP.1 (p - 1) (by omega)
              have es := fun f => sh (p - 1) f (by omega) (by omega)
              rw [show p - 1 + 1 = p by omega] at es
              rw [v3 p z1, es, es, es, es, es, ys 25 _ hps (by decide), ys 26 _ hps (by decide), ys 27 _ hps (by decide), ys 28 _ hps (by decide)]
              exact hP.2.2.1 (p - 1) (by omega)
          · show rr_lt Y3 (if p < pl then π p else if p = pl then sz else π (p - 1)) (if q < pl then π q else if q = pl then sz else π (q - 1))
            rcases Nat.lt_trichotomy p pl with z1 | z1 | z1
            · rw [v1 p z1]
              rcases Nat.lt_trichotomy q pl with z2 | z2 | z2
              · rw [v1 q z2]
                exact oldlt _ _ (hP.1 p (by omega)) (hP.1 q (by omega)) (hP.2.2.2 p q hpq (by omega))
              · subst z2; rw [v2]; exact low p z1
              · rw [v3 q z2]
                exact oldlt _ _ (hP.1 p (by omega)) (hP.1 (q - 1) (by omega)) (hP.2.2.2 p (q - 1) (by omega) (by omega))
            · subst z1
              rw [v2, v3 q hpq]
              exact high (q - 1) (by omega) (f4 (q - 1) (by omega) (by omega)).2
            · rw [v3 p z1, v3 q (by omega)]
              exact oldlt _ _ (hP.1 (p - 1) (by omega)) (hP.1 (q - 1) (by omega)) (hP.2.2.2 (p - 1) (q - 1) (by omega) (by omega))
        have hN1 : ∀ s, s < sz + 1 → rr_N1 N Y3 s := by
          intro s hs
          by_cases z : s = sz
          · subst z
            exact ⟨i, k', b', g', hi, hk, hg1, by omega, y25, y26, y27, y28, by rw [yo 6 i (by omega) (by omega)]; exact hlive, by rw [yo 8 i (by omega) (by omega), ew, nI_clamp (by omega)]; exact hbg⟩
          · have hs' : s < sz := by omega
            obtain ⟨t2, k2, b2, g2, g3, g4, g5, g6, g7, g8, g9, g10, g11, g12⟩ := hS1 s hs'
            exact ⟨t2, k2, b2, g2, g3, g4, g5, g6, by rw [ys 25 s hs' (by decide)]; exact g7, by rw [ys 26 s hs' (by decide)]; exact g8, by rw [ys 27 s hs' (by decide)]; exact g9, by rw [ys 28 s hs' (by decide)]; exact g10, by rw [yo 6 t2 (by omega) (by omega)]; exact g11, by rw [yo 8 t2 (by omega) (by omega)]; exact g12⟩
        -- the new one and an old one that overlap are of two locks
        have newov : ∀ s, s < sz → Y 25 0 s = nI i → (Y 27 0 s).toNatClampNeg < b' + g' → b' < (Y 27 0 s).toNatClampNeg + (Y 28 0 s).toNatClampNeg → ¬ Y 26 0 s = nI k' := by
          intro s hs e h1 h2 e2
          obtain ⟨p, hp, rfl⟩ := hP.sur hs
          have z := (pair p hp).mp (nocl p (by omega) (by omega)) e
          refine z ?_
          obtain ⟨k2, b2, g2, a1, a2, a3, a4, a5, a6, a7, a8, a9, a10⟩ := (hS1 _ hs).nat hN hi e
          unfold mm_may
          rw [a7] at h1 h2
          rw [a8] at h2
          rw [a5, a6, nI_add, nI_add, if_neg (fun y => by have := (nI_leI (by omega) (by omega)).mp y; omega), if_pos (nI_lt (by omega) (by omega)), e2]
          split
          · rfl
          · exact if_pos rfl
        have hS3 : rr_S N X3 Y3 (sz + 1) := by
          refine ⟨⟨_, hP3⟩, hN1, fun s s' a b c d => ?_⟩
          by_cases z : s = sz
          · subst z
            have hs' : s' < s := by omega
            unfold rr_ov at d
            rw [y25, y27, y28, ys 25 s' hs' (by decide), ys 27 s' hs' (by decide), ys 28 s' hs' (by decide), nI_clamp (by omega), nI_clamp (by omega)] at d
            rw [y26, ys 26 s' hs' (by decide)]
            exact fun e => newov s' hs' d.1.symm d.2.2 d.2.1 e.symm
          · have hs : s < sz := by omega
            by_cases z' : s' = sz
            · subst z'
              unfold rr_ov at d
              rw [y25, y27, y28, ys 25 s hs (by decide), ys 27 s hs (by decide), ys 28 s hs (by decide), nI_clamp (by omega), nI_clamp (by omega)] at d
              rw [y26, ys 26 s hs (by decide)]
              exact newov s hs d.1 d.2.1 d.2.2
            · have hs' : s' < sz := by omega
              unfold rr_ov at d
              rw [ys 25 s hs (by decide), ys 27 s hs (by decide), ys 28 s hs (by decide), ys 25 s' hs' (by decide), ys 27 s' hs' (by decide), ys 28 s' hs' (by decide)] at d
              rw [ys 26 s hs (by decide), ys 26 s' hs' (by decide)]
              exact hS2 s s' hs hs' c d
        have hinn : ∀ {j s u}, s < sz → (rr_in Y3 j s u ↔ rr_in Y j s u) := by
          intro j s u hs
          unfold rr_in
          rw [ys 25 s hs (by decide), ys 27 s hs (by decide), ys 28 s hs (by decide)]
        have hL3 : rr_L N Y3 (sz + 1) := by
          obtain ⟨l1, l2, l3, l4⟩ := h.l
          refine ⟨fun j hj => ?_, fun j s hj hs => ?_, fun k j hk hj => ?_, fun j k hj hk => ?_⟩
          · rw [yo 17 j (by omega) (by omega), yo 20 j (by omega) (by omega), yo 8 j (by omega) (by omega)]; exact l1 j hj
          · rw [yo 17 j (by omega) (by omega), yo 20 j (by omega) (by omega), yo 23 _ (by omega) (by omega)]
            by_cases z : s = sz
            · subst z
              intro hpj hin
              have e := hin.1
              rw [y25, nI_eq (by omega) (by omega)] at e
              subst e
              exact absurd hnp hpj
            · have hs' : s < sz := by omega
              rw [ys 27 s hs' (by decide), ys 26 s hs' (by decide), hinn hs']
              exact l2 j s hj hs'
          · rw [yo 17 j (by omega) (by omega), yo 20 j (by omega) (by omega), yo 23 _ (by omega) (by omega)]
            intro e
            obtain ⟨a, s, b, c, d⟩ := l3 k j hk hj e
            exact ⟨a, s, by omega, (hinn b).mpr c, by rw [ys 26 s b (by decide)]; exact d⟩
          · rw [yo 17 j (by omega) (by omega), yo 20 j (by omega) (by omega), yo 21 _ (by omega) (by omega)]
            intro hpp e
            obtain ⟨s, b, c, d⟩ := l4 j k hj hk hpp e
            exact ⟨s, by omega, (hinn b).mpr c, by rw [ys 26 s b (by decide)]; exact d⟩
        have rc3 : rc N X3 Y3 := h0.rc.fr (fun j f _ => xo 2 j f (by decide) (by decide)) (fun k => xo 3 0 k (by decide) (by decide)) (fun r j hr => yo r j (by omega) (by omega))
        have t13 : rt1 N X3 Y3 := h0.t.t1.fr (fun j f => xo 1 j f (by decide) (by decide)) (fun r j h1 h2 => yo r j (by omega) (by omega))
        have hV3 : mm_V N Y3 := h.mV.fr (fun r j h1 h2 => yo r j (by omega) (by omega))
        have hD3 : rr_D N Y3 th := h.d.mono (fun r j hr => yo r j (by omega) (by omega)) (fun j z => by rw [yo 17 j (by omega) (by omega)] at z; exact z)
        have hbI : bb_I N (cnt + 1) (sz + 1) X3 := by
          refine ⟨rc3.W, rc3.O hN, x4, by omega, fun p hp => ?_⟩
          rcases Nat.lt_trichotomy p pl with z1 | z1 | z1
          · rw [sl p 2 z1, x5o p (by omega), f3 p z1]
            exact h0.bI.2.2.2.2 p (by omega)
          · subst z1
            rw [sn, c2, x5n]
            exact ⟨⟨cnt, by omega, rfl⟩, ⟨k', hk, rfl⟩⟩
          · have es := sh (p - 1) 2 (by omega) (by omega)
            have e5 := (f4 (p - 1) (by omega) (by omega)).1
            rw [show p - 1 + 1 = p by omega] at es e5
            rw [es, x5o p (by omega), e5]
            exact h0.bI.2.2.2.2 (p - 1) (by omega)
        have hmI : mm_I N (sz + 1) Y3 := by
          refine ⟨rc3.2.2.1, rc3.2.2.2.1, y24, by omega, fun s hs => ?_⟩
          by_cases z : s = sz
          · subst z; rw [y26]; exact ⟨k', hk, rfl⟩
          · rw [ys 26 s (by omega) (by decide)]; exact h.mI.2.2.2.2 s (by omega)
        refine ⟨rr_T_of t13 rc3.1, rc3.2.1, ⟨?_, ?_, ?_, ?_, ?_, fun j => ?_, fun j => ?_, fun j => ?_⟩, hbI, hmI, fun p => ?_, ?_, ?_, ?_, bb_V_of t13 hV3, rc3.2.2.2.2, hS3, hL3, hD3⟩
        · rw [xo 0 0 5 (by decide) (by decide), y0 4 (by decide)]; exact h0.z.1
        · rw [xo 0 0 6 (by decide) (by decide), y0 5 (by decide)]; exact h0.z.2.1
        · rw [xo 0 0 7 (by decide) (by decide), y0 35 (by decide)]; exact h0.z.2.2.1
        · rw [xo 6 0 2 (by decide) (by decide), y0 30 (by decide)]; exact h0.z.2.2.2.1
        · rw [xo 9 0 1 (by decide) (by decide), y0 34 (by decide)]; exact h0.z.2.2.2.2.1
        · rw [xo 7 0 j (by decide) (by decide), yo 31 j (by omega) (by omega)]; exact h0.z.2.2.2.2.2.1 j
        · rw [xo 8 0 j (by decide) (by decide), yo 32 j (by omega) (by omega)]; exact h0.z.2.2.2.2.2.2.1 j
        · rw [xo 10 0 j (by decide) (by decide), yo 33 j (by omega) (by omega)]; exact h0.z.2.2.2.2.2.2.2 j
        · by_cases z : p = pl
          · rw [z, x5n]; exact Or.inr ⟨cnt, by omega, rfl⟩
          · obtain ⟨p0, e⟩ := f7 p
            rw [x5o p z, e]
            exact h0.rw p0
        · rw [xo 0 0 5 (by decide) (by decide)]; exact h0.la
        · rw [xo 0 0 6 (by decide) (by decide), xo 9 0 1 (by decide) (by decide)]; exact h0.th
        · rw [xo 6 0 2 (by decide) (by decide)]; exact h0.tm
      · have q10 : mm_asF Y (nI i) (nI b') (nI k') (nI g') sz 0 = 0 := by
          by_cases z : mm_asF Y (nI i) (nI b') (nI k') (nI g') sz 0 = 0
          · exact z
          · exact absurd (hcl.mpr z) q9
        rw [if_neg q9, if_pos q10]
        exact ⟨rfl, sz, h0⟩
