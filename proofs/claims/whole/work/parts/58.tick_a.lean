/-! a unit of work, whole -/
theorem db_clamp_pos {x : Int32} (h : 0 < x.toNatClampNeg) : x = nI x.toNatClampNeg ∧ x.toNatClampNeg < 2 ^ 31 := by
  by_cases q : x < 0
  · have h1 : x.toInt < 0 := by
      have := Int32.lt_iff_toInt_lt.mp q
      have e0 : (0 : Int32).toInt = 0 := by decide
      omega
    have h2 : x.toNatClampNeg = x.toInt.toNat := rfl
    omega
  · obtain ⟨j, hj, e⟩ := nI_of q
    rw [e, nI_clamp hj]
    exact ⟨rfl, hj⟩
theorem rc.fr {N : Nat → Nat} {X Y X' Y' : db_X} (h : rc N X Y) (hx : ∀ i f, (f ≤ 4 ∨ f = 6) → X' 2 i f = X 2 i f) (h3 : ∀ k, X' 3 0 k = X 3 0 k) (hy : ∀ r i, (r = 6 ∨ (17 ≤ r ∧ r ≤ 23)) → Y' r 0 i = Y r 0 i) : rc N X' Y' := by
  refine ⟨h.1.fr (fun i f hf => hx i f (by omega)) (fun r i h1 h2 => hy r i (by omega)), h.2.1.fr h3 (fun k => hy 23 k (by omega)), fun i hi => by rw [hy 21 i (by omega)]; exact h.2.2.1 i hi, fun k hk => by rw [hy 23 k (by omega)]; exact h.2.2.2.1 k hk, h.2.2.2.2.fr (fun i f hf => hx i f (by omega)) (fun r i hr => hy r i (by omega))⟩
theorem rr_L.fr {N : Nat → Nat} {Y Y' : db_X} {sz : Nat} (h : rr_L N Y sz) (fr : ∀ r i, (r = 17 ∨ r = 20 ∨ r = 8 ∨ r = 21 ∨ r = 23 ∨ (25 ≤ r ∧ r ≤ 28)) → Y' r 0 i = Y r 0 i) : rr_L N Y' sz := by
  obtain ⟨l1, l2, l3, l4⟩ := h
  have hin : ∀ {i s u}, rr_in Y' i s u ↔ rr_in Y i s u := rr_in.fr (fun r s a b => fr r s (by omega))
  refine ⟨fun i hi => ?_, fun i s hi hs => ?_, fun k i hk hi => ?_, fun i k hi hk => ?_⟩
  · rw [fr 17 _ (by omega), fr 20 _ (by omega), fr 8 _ (by omega)]; exact l1 i hi
  · rw [fr 17 _ (by omega), fr 20 _ (by omega), fr 27 _ (by omega), fr 26 _ (by omega), fr 23 _ (by omega), hin]; exact l2 i s hi hs
  · rw [fr 17 _ (by omega), fr 20 _ (by omega), fr 23 _ (by omega)]
    intro e
    obtain ⟨a, s, b, c, d⟩ := l3 k i hk hi e
    exact ⟨a, s, b, hin.mpr c, by rw [fr 26 _ (by omega)]; exact d⟩
  · rw [fr 17 _ (by omega), fr 21 _ (by omega), fr 20 _ (by omega)]
    intro hpp e
    obtain ⟨s, b, c, d⟩ := l4 i k hi hk hpp e
    exact ⟨s, b, hin.mpr c, by rw [fr 26 _ (by omega)]; exact d⟩
/-- the numbers of section s -/
theorem rr_N1.nat {N : Nat → Nat} {Y : db_X} {s : Nat} (h : rr_N1 N Y s) {i : Nat} (hN : bb_N N) (hi : i < N 0) (e : Y 25 0 s = nI i) : ∃ k b g : Nat, k < N 1 ∧ 1 ≤ g ∧ b + g ≤ 20000 ∧ Y 26 0 s = nI k ∧ Y 27 0 s = nI b ∧ Y 28 0 s = nI g ∧ (Y 27 0 s).toNatClampNeg = b ∧ (Y 28 0 s).toNatClampNeg = g ∧ (Y 26 0 s).toNatClampNeg = k ∧ b + g ≤ (Y 8 0 i).toNatClampNeg := by
  obtain ⟨t, k, b, g, ht, hk, hg, hbg, e5, e6, e7, e8, -, h10⟩ := h
  have hn := hN.2.1
  have hn1 := hN.2.2.1
  rw [e5, nI_eq (by omega) (by omega)] at e
  subst e
  exact ⟨k, b, g, hk, hg, hbg, e6, e7, e8, by rw [e7, nI_clamp (by omega)], by rw [e8, nI_clamp (by omega)], by rw [e6, nI_clamp (by omega)], h10⟩
theorem work_all {N : Nat → Nat} {X Y : db_X} {sz i : Nat} (hN : bb_N N) (hi : i < N 0) (hsz : sz ≤ N 2) (hc : rc N X Y) (hS : rr_S N X Y sz) (hL : rr_L N Y sz) (ht1 : rt1 N X Y) (hall : rr_all Y sz i) (hp : ¬ Y 17 0 i = 0) (hw : Y 21 0 i = -1) (hnow : X 0 0 6 = Y 0 0 5) :
    rc N (bb_work N X sz i) (mm_wk N Y sz i) ∧ rt1 N (bb_work N X sz i) (mm_wk N Y sz i) ∧ rr_L N (mm_wk N Y sz i) sz ∧ ∀ j, ¬ mm_wk N Y sz i 17 0 j = 0 → ¬ Y 17 0 j = 0 := by
  have hn := hN.2.1
  have hn1 := hN.2.2.1
  obtain ⟨u, eu, hu⟩ := hL.1 i hi hp
  obtain ⟨ew, hw31⟩ := db_clamp_pos (x := Y 8 0 i) (by omega)
  generalize hwd : (Y 8 0 i).toNatClampNeg = w at *
  obtain ⟨⟨π, hP⟩, hS1, hS2⟩ := hS
  have hc1 : rc N (db_up X 2 i 3 (X 2 i 3 + 1)) (mm_w1 Y i) := by
    unfold mm_w1
    refine ⟨hc.1.up (by decide) rfl (by rw [hc.1 3 (by decide) i hi]), hc.2.1.fr (fun k => up_k (by decide)) (fun k => up_k (by decide)), fun j hj => by rw [up_k (by decide)]; exact hc.2.2.1 j hj, fun k hk => by rw [up_k (by decide)]; exact hc.2.2.2.1 k hk, hc.2.2.2.2.fr (fun j f hf => up_f (by omega)) (fun r j hr => up_k (by omega))⟩
  have f1 : ∀ r s, ¬ r = 20 → mm_w1 Y i r 0 s = Y r 0 s := fun r s z => up_k z
  have f20 : mm_w1 Y i 20 0 i = nI (u + 1) := by unfold mm_w1; rw [up_at, eu, nI_1]
  have f20o : ∀ j, ¬ j = i → mm_w1 Y i 20 0 j = Y 20 0 j := fun j z => up_f z
  have hP1 : rr_P (db_up X 2 i 3 (X 2 i 3 + 1)) (mm_w1 Y i) sz π := hP.fr (bb_sec_up (by decide) (by decide)) (fun r s _ _ => f1 r s (by omega))
  have hS11 : ∀ s, s < sz → rr_N1 N (mm_w1 Y i) s := fun s hs => (hS1 s hs).fr (fun r s _ => f1 r s (by omega))
  -- a section that ends now was open at u
  have hen : ∀ s, s < sz → rr_en (mm_w1 Y i) i s → ∃ k b g : Nat, k < N 1 ∧ 1 ≤ g ∧ b + g = u + 1 ∧ Y 25 0 s = nI i ∧ Y 26 0 s = nI k ∧ (Y 27 0 s).toNatClampNeg = b ∧ (Y 28 0 s).toNatClampNeg = g ∧ (Y 26 0 s).toNatClampNeg = k := by
    intro s hs he
    have e5 : Y 25 0 s = nI i := by rw [← f1 25 s (by decide)]; exact he.1
    obtain ⟨k, b, g, hk, hg, hbg, e6, e7, e8, c7, c8, c6, hb8⟩ := (hS1 s hs).nat hN hi e5
    have h1 := he.2
    rw [f1 27 _ (by decide), f1 28 _ (by decide), f20, e7, e8, nI_add, nI_eq (by omega) (by omega)] at h1
    exact ⟨k, b, g, hk, hg, h1, e5, e6, c7, c8, c6⟩
  have held : ∀ s, s < sz → rr_in Y i s u → Y 23 0 (Y 26 0 s).toNatClampNeg = nI i := by
    intro s hs h
    obtain ⟨k, b, g, hk, hg, hbg, e6, e7, e8, c7, c8, c6, hb8⟩ := (hS1 s hs).nat hN hi h.1
    have h2 := h.2.1
    have h3 := h.2.2
    rw [c7] at h2
    by_cases q : b = u
    · exact hall s hs ⟨h.1, by rw [e7, eu, q]⟩
    · refine hL.2.1 i s hi hs hp ?_ ?_
      · rw [eu, nI_clamp (by omega)]; exact h
      · rw [eu, nI_clamp (by omega), c7]; omega
  have distinct : ∀ s s', s < sz → s' < sz → s ≠ s' → rr_in Y i s u → rr_in Y i s' u → ¬ Y 26 0 s = Y 26 0 s' := by
    intro s s' hs hs' hne h h'
    refine hS2 s s' hs hs' hne ⟨by rw [h.1, h'.1], ?_, ?_⟩
    · have := h.2.1; have := h'.2.2; omega
    · have := h.2.2; have := h'.2.1; omega
  have enin : ∀ s, s < sz → rr_en (mm_w1 Y i) i s → rr_in Y i s u := by
    intro s hs he
    obtain ⟨k, b, g, hk, hg, hbg, e5, e6, c7, c8, c6⟩ := hen s hs he
    exact ⟨e5, by omega, by omega⟩
  obtain ⟨r1, r2, r3, r4⟩ := work_loop hN hi hsz sz (db_up X 2 i 3 (X 2 i 3 + 1)) (mm_w1 Y i) 20 (Nat.le_refl _) hc1 hP1 hS11 (by rw [f1 21 _ (by decide)]; exact hw)
    (by
      intro p' hp' he
      rw [f1 23 _ (by decide), f1 26 _ (by decide)]
      have := held _ (hP.1 p' hp') (enin _ (hP.1 p' hp') he)
      exact ⟨fun _ => hp', fun _ => this⟩)
    (by
      intro s s' hs hs' hne he he'
      rw [f1 26 _ (by decide), f1 26 _ (by decide)]
      exact distinct s s' hs hs' hne (enin s hs he) (enin s' hs' he'))
    (by have := db_cn_le (f := mm_hld (mm_w1 Y i) i) (N 1); omega)
  have hwk : mm_wk N Y sz i = mm_wk2 (mm_wkF N sz i 20 (mm_w1 Y i)) i := rfl
  have hbw : bb_work N X sz i = bb_work2 (bb_workL N i sz (db_up X 2 i 3 (X 2 i 3 + 1))) i := rfl
  have hxf : bb_fr (fun k _ => k == 2 || k == 3) (bb_workL N i sz (db_up X 2 i 3 (X 2 i 3 + 1))) X := ((bb_workL_fr _ _).mono (by intro k f h; simp [bb_SG] at *; omega)).tr (bb_fr.up rfl)
  generalize mm_wkF N sz i 20 (mm_w1 Y i) = Y2 at *
  generalize bb_workL N i sz (db_up X 2 i 3 (X 2 i 3 + 1)) = X2 at *
  have g : ∀ r s, ¬ r = 20 → ¬ r = 29 → ¬ r = 23 → ¬ r = 21 → Y2 r 0 s = Y r 0 s := fun r s h1 h2 h3 h4 => (r2.1 r 0 s (by simp [mm_SK]; omega)).trans (f1 r s h1)
  have g20 : Y2 20 0 i = nI (u + 1) := (r2.1 20 0 i rfl).trans f20
  have g20o : ∀ j, ¬ j = i → Y2 20 0 j = Y 20 0 j := fun j z => (r2.1 20 0 j rfl).trans (f20o j z)
  have hin : ∀ {j s v}, rr_in Y2 j s v ↔ rr_in Y j s v := rr_in.fr (fun r s a b => g r s (by omega) (by omega) (by omega) (by omega))
  have c20 : (Y2 20 0 i).toNatClampNeg = u + 1 := by rw [g20, nI_clamp (by omega)]
  have k2 : ∀ j s, j < N 0 → s < sz → ¬ Y 17 0 j = 0 → rr_in Y j s (Y2 20 0 j).toNatClampNeg → (Y 27 0 s).toNatClampNeg < (Y2 20 0 j).toNatClampNeg → Y2 23 0 (Y 26 0 s).toNatClampNeg = nI j := by
    intro j s hj hs hpj h1 h2
    obtain ⟨k, b, gg, hk, hg, hbg, e6, e7, e8, c7, c8, c6, hb8⟩ := (hS1 s hs).nat hN hj h1.1
    by_cases q : j = i
    · subst q
      rw [c20] at h1 h2
      have h3 : rr_in Y j s u := ⟨h1.1, by omega, by have := h1.2.2; omega⟩
      have h4 := held s hs h3
      rw [c6] at h4 ⊢
      refine r2.2.2.1 k j hk hj (by rw [f1 23 _ (by decide)]; exact h4) (Or.inr ?_)
      rintro ⟨s', hs', he', e6'⟩
      have h5 := enin s' hs' he'
      obtain ⟨k', b', g', hk', hg', hbg', e5', e66', c7', c8', c6'⟩ := hen s' hs' he'
      refine distinct s s' hs hs' ?_ h3 h5 ?_
      · intro z
        subst z
        have := h1.2.2
        omega
      · rw [f1 26 _ (by decide)] at e6'
        rw [e6, e6']
    · rw [g20o j q] at h1 h2
      have h4 := hL.2.1 j s hj hs hpj h1 h2
      rw [c6] at h4 ⊢
      exact r2.2.2.1 k j hk hj (by rw [f1 23 _ (by decide)]; exact h4) (Or.inl q)
  have k4 : ∀ j k, j < N 0 → k < N 1 → ¬ Y 17 0 j = 0 → Y2 21 0 j = nI k → ∃ s, s < sz ∧ rr_in Y j s (Y2 20 0 j).toNatClampNeg ∧ Y 26 0 s = nI k := by
    intro j k hj hk hpp e
    have e1 := r2.2.2.2 j k hk e
    rw [f1 21 _ (by decide)] at e1
    have q : ¬ j = i := by
      intro q
      rw [q, hw] at e1
      exact nI_ne1 (by omega) e1.symm
    rw [g20o j q]
    exact hL.2.2.2 j k hj hk hpp e1
  have k3 : ∀ k j, k < N 1 → j < N 0 → Y2 23 0 k = nI j → ¬ Y 17 0 j = 0 ∧ ∃ s, s < sz ∧ rr_in Y j s (Y2 20 0 j).toNatClampNeg ∧ Y 26 0 s = nI k := by
    intro k j hk hj e
    rcases r2.2.1 k j hk hj e with q | ⟨q1, q2, q3⟩
    · rw [f1 23 _ (by decide)] at q
      obtain ⟨h1, s, h2, h3, h4⟩ := hL.2.2.1 k j hk hj q
      refine ⟨h1, s, h2, ?_, h4⟩
      by_cases z : j = i
      · subst z
        rw [eu, nI_clamp (by omega)] at h3
        rw [c20]
        obtain ⟨k', b, gg, hk', hg, hbg, e6, e7, e8, c7, c8, c6, hb8⟩ := (hS1 s h2).nat hN hj h3.1
        refine ⟨h3.1, by have := h3.2.1; omega, ?_⟩
        by_cases y : b + gg = u + 1
        · exfalso
          have he : rr_en (mm_w1 Y j) j s := ⟨by rw [f1 25 _ (by decide)]; exact h3.1, by rw [f1 27 _ (by decide), f1 28 _ (by decide), f20, e7, e8, nI_add, y]⟩
          have := r3 s h2 he
          rw [f1 26 _ (by decide), h4, nI_clamp (by omega)] at this
          exact this e
        · have := h3.2.2
          omega
      · rw [g20o j z]; exact h3
    · rw [f1 21 _ (by decide)] at q2
      rw [f1 17 _ (by decide)] at q3
      rw [g20o j q1]
      exact ⟨q3, hL.2.2.2 j k hj hk q3 q2⟩
  have x3 : X2 2 i 3 = nI (u + 1) := by rw [r1.1 3 (by decide) i hi]; exact g20
  have x1 : ∀ j f, X2 1 j f = X 1 j f := fun j f => hxf 1 j f rfl
  have ht2 : rt1 N X2 Y2 := ht1.fr x1 (fun r j _ _ => g r j (by omega) (by omega) (by omega) (by omega))
  have y8 : Y2 8 0 i = nI w := (g 8 i (by omega) (by omega) (by omega) (by omega)).trans ew
  have x13 : X2 1 i 3 = nI w := by rw [ht2 3 (by decide) (by decide) i hi]; exact y8
  rw [hwk, hbw]
  unfold mm_wk2 bb_work2
  rw [x3, x13, y8, g20]
  by_cases q : u + 1 = w
  · rw [if_pos (by rw [q]), if_pos (by rw [q]; exact Int32.le_refl _)]
    have a17 : ∀ j, mm_w5 (mm_w4 (mm_w3 Y2 i) i) i 17 0 j = if j = i then 0 else Y 17 0 j := by
      intro j
      have h1 : mm_w5 (mm_w4 (mm_w3 Y2 i) i) i 17 0 j = db_up Y2 17 0 i 0 17 0 j := by
        unfold mm_w5
        split
        · unfold mm_w4 mm_w3
          rw [up_k (by decide)]
        · rw [up_k (by decide)]
          unfold mm_w4 mm_w3
          rw [up_k (by decide)]
      rw [h1]
      by_cases z : j = i
      · rw [if_pos z, z, up_at]
      · rw [if_neg z, up_f z]; exact g 17 j (by decide) (by decide) (by decide) (by decide)
    have ao : ∀ r j, ¬ r = 17 → ¬ r = 12 → ¬ r = 16 → mm_w5 (mm_w4 (mm_w3 Y2 i) i) i r 0 j = Y2 r 0 j := by
      intro r j h1 h2 h3
      unfold mm_w5
      split
      · unfold mm_w4 mm_w3
        rw [up_k h2, up_k h1]
      · rw [up_k h3]
        unfold mm_w4 mm_w3
        rw [up_k h2, up_k h1]
    refine ⟨?_, ?_, ?_, fun j => ?_⟩
    · have b1 : rc N (db_up X2 2 i 0 0) (db_up Y2 17 0 i 0) := by
        refine ⟨r1.1.up (by decide) rfl rfl, r1.2.1.fr (fun k => up_k (by decide)) (fun k => up_k (by decide)), fun j hj => by rw [up_k (by decide)]; exact r1.2.2.1 j hj, fun k hk => by rw [up_k (by decide)]; exact r1.2.2.2.1 k hk, fun j hj => ?_⟩
        obtain ⟨d1, d2, d3⟩ := r1.2.2.2.2 j hj
        rw [up_k (k' := 6) (by decide), up_k (k' := 21) (by decide), up_k (k' := 22) (by decide), up_f (f' := 6) (by decide), up_f (f' := 4) (by decide)]
        by_cases z : j = i
        · subst z
          rw [up_at]
          refine ⟨fun z => absurd rfl z, fun _ => ?_, fun z => absurd rfl z⟩
          rw [(d3 (by rw [g 17 _ (by decide) (by decide) (by decide) (by decide)]; exact hp)).2.1]
          exact r4
        · rw [up_f z]; exact ⟨d1, d2, d3⟩
      refine b1.fr (fun j f hf => ?_) (fun k => ?_) (fun r j hr => ?_)
      · unfold bb_endJ bb_end3 bb_end2
        rw [up_k (by decide), up_k (by decide)]
      · unfold bb_endJ bb_end3 bb_end2
        rw [up_k (by decide), up_k (by decide)]
      · by_cases z : r = 17
        · subst z
          rw [a17]
          by_cases z2 : j = i
          · rw [if_pos z2, z2, up_at]
          · rw [if_neg z2, up_f z2]; exact (g 17 j (by decide) (by decide) (by decide) (by decide)).symm
        · rw [ao r j z (by omega) (by omega), up_k z]
    · have b1 : rt1 N (bb_end2 (db_up X2 2 i 0 0) i) (mm_w4 (mm_w3 Y2 i) i) := by
        unfold bb_end2 mm_w4 mm_w3
        refine (ht2.fr (X' := db_up X2 2 i 0 0) (Y' := db_up Y2 17 0 i 0) (fun j f => up_k (by decide)) (fun r j _ _ => up_k (by omega))).up (f := 7) (r := 12) rfl ?_
        rw [up_k (by decide), up_k (by decide), ht2 7 (by decide) (by decide) i hi]
      have v18 : bb_end2 (db_up X2 2 i 0 0) i 2 i 1 = mm_w4 (mm_w3 Y2 i) i 18 0 i := by
        unfold bb_end2 mm_w4 mm_w3
        rw [up_k (by decide), up_f (by decide), up_k (by decide), up_k (by decide)]
        exact r1.1 1 (by decide) i hi
      have v5 : X2 0 0 6 = mm_w4 (mm_w3 Y2 i) i 0 0 5 := by
        unfold mm_w4 mm_w3
        rw [up_k (by decide), up_k (by decide), hxf 0 0 6 rfl, hnow, r2.1 0 0 5 rfl]
        unfold mm_w1
        rw [up_k (by decide)]
      have v16 : bb_end2 (db_up X2 2 i 0 0) i 1 i 11 = mm_w4 (mm_w3 Y2 i) i 16 0 i := b1 11 (by decide) (by decide) i hi
      unfold bb_endJ bb_end3 mm_w5
      rw [v18, v16, v5]
      by_cases z : mm_w4 (mm_w3 Y2 i) i 0 0 5 + 1 - mm_w4 (mm_w3 Y2 i) i 18 0 i ≤ mm_w4 (mm_w3 Y2 i) i 16 0 i
      · rw [if_pos z, if_neg (Int32.not_lt.mpr z)]
        refine b1.fr (fun j f => ?_) (fun r j _ _ => rfl)
        by_cases y : j = i ∧ f = 11
        · rw [y.1, y.2, up_at, v16]
        · rw [up_o (fun y2 => y ⟨y2.2.1, y2.2.2⟩)]
      · rw [if_neg z, if_pos (Int32.not_le.mp z)]
        exact b1.up rfl rfl
    · have hin3 : ∀ {j s v}, rr_in (mm_w5 (mm_w4 (mm_w3 Y2 i) i) i) j s v ↔ rr_in Y j s v := rr_in.fr (fun r s a b => (ao r s (by omega) (by omega) (by omega)).trans (g r s (by omega) (by omega) (by omega) (by omega)))
      have m : ∀ r s, (r = 8 ∨ r = 27 ∨ r = 26) → mm_w5 (mm_w4 (mm_w3 Y2 i) i) i r 0 s = Y r 0 s := fun r s z => (ao r s (by omega) (by omega) (by omega)).trans (g r s (by omega) (by omega) (by omega) (by omega))
      refine ⟨fun j hj => ?_, fun j s hj hs => ?_, fun k j hk hj => ?_, fun j k hj hk => ?_⟩
      · rw [a17, ao 20 j (by decide) (by decide) (by decide), m 8 _ (by omega)]
        split
        · exact fun z => absurd rfl z
        · rename_i z
          rw [g20o j z]
          exact hL.1 j hj
      · rw [a17, ao 20 j (by decide) (by decide) (by decide), m 27 _ (by omega), m 26 _ (by omega), ao 23 _ (by decide) (by decide) (by decide), hin3]
        split
        · exact fun z => absurd rfl z
        · exact k2 j s hj hs
      · rw [a17, ao 20 j (by decide) (by decide) (by decide), ao 23 _ (by decide) (by decide) (by decide)]
        intro e
        obtain ⟨d1, s, d2, d3, d4⟩ := k3 k j hk hj e
        have z : ¬ j = i := by
          intro z
          subst z
          rw [c20] at d3
          obtain ⟨k', b, gg, hk', hg, hbg, e6, e7, e8, c7, c8, c6, hb8⟩ := (hS1 s d2).nat hN hj d3.1
          have := d3.2.2
          omega
        rw [if_neg z]
        exact ⟨d1, s, d2, hin3.mpr d3, by rw [m 26 _ (by omega)]; exact d4⟩
      · rw [a17, ao 20 j (by decide) (by decide) (by decide), ao 21 _ (by decide) (by decide) (by decide)]
        intro hpp e
        have hpp2 : ¬ Y 17 0 j = 0 := by
          by_cases z : j = i
          · rw [z]; exact hp
          · rw [if_neg z] at hpp; exact hpp
        obtain ⟨s, d2, d3, d4⟩ := k4 j k hj hk hpp2 e
        exact ⟨s, d2, hin3.mpr d3, by rw [m 26 _ (by omega)]; exact d4⟩
    · rw [a17]
      split
      · exact fun z => absurd rfl z
      · exact id
  · have hq : u + 1 < w := by omega
    rw [if_neg (fun z => q ((nI_eq (by omega) (by omega)).mp z)), if_neg (fun z => by have := (nI_leI (by omega) (by omega)).mp z; omega)]
    refine ⟨r1, ht2, ⟨fun j hj => ?_, fun j s hj hs => ?_, fun k j hk hj e => ?_, fun j k hj hk hpp e => ?_⟩, fun j => ?_⟩
    · rw [g 17 _ (by decide) (by decide) (by decide) (by decide), g 8 _ (by decide) (by decide) (by decide) (by decide)]
      by_cases z : j = i
      · subst z
        exact fun _ => ⟨u + 1, g20, by rw [hwd]; exact hq⟩
      · rw [g20o j z]; exact hL.1 j hj
    · rw [g 17 _ (by decide) (by decide) (by decide) (by decide), g 27 _ (by decide) (by decide) (by decide) (by decide), g 26 _ (by decide) (by decide) (by decide) (by decide), hin]
      exact k2 j s hj hs
    · obtain ⟨d1, s, d2, d3, d4⟩ := k3 k j hk hj e
      exact ⟨by rw [g 17 _ (by decide) (by decide) (by decide) (by decide)]; exact d1, s, d2, hin.mpr d3, by rw [g 26 _ (by decide) (by decide) (by decide) (by decide)]; exact d4⟩
    · rw [g 17 _ (by decide) (by decide) (by decide) (by decide)] at hpp
      obtain ⟨s, d2, d3, d4⟩ := k4 j k hj hk hpp e
      exact ⟨s, d2, hin.mpr d3, by rw [g 26 _ (by decide) (by decide) (by decide) (by decide)]; exact d4⟩
    · rw [g 17 _ (by decide) (by decide) (by decide) (by decide)]; exact id
