/-! the start -/
theorem s_start {n nl ns ng la : Nat} (hn : n ≤ 40) (h1 : 1 ≤ la) (h2 : la ≤ 20000) : rr (bb_mkN n nl ns ng) (bb_X0 la) (mm_Y0 la) 0 0 0 0 la := by
  have x : ∀ k i f, ¬ (k = 0 ∧ f = 5) → ¬ (k = 2 ∧ f = 4) → ¬ k = 3 → ¬ k = 5 → bb_X0 la k i f = 0 := by
    intro k i f a b c d
    unfold bb_X0
    rw [if_neg a, if_neg b, if_neg c, if_neg d]
  have y : ∀ k s, ¬ (k = 0 ∧ s = 4) → ¬ k = 23 → mm_Y0 la k 0 s = 0 := by
    intro k s a b
    unfold mm_Y0
    rw [if_neg a, if_neg b]
  have x3 : ∀ k, bb_X0 la 3 0 k = -1 := by intro k; simp [bb_X0]
  have x5 : ∀ k, bb_X0 la 5 0 k = -1 := by intro k; simp [bb_X0]
  have x24 : ∀ i, bb_X0 la 2 i 4 = -1 := by intro i; simp [bb_X0]
  have x05 : bb_X0 la 0 0 5 = nI la := by simp [bb_X0]
  have y23 : ∀ k, mm_Y0 la 23 0 k = -1 := by intro k; simp [mm_Y0]
  have y04 : mm_Y0 la 0 0 4 = nI la := by simp [mm_Y0]
  have y17 : ∀ i, mm_Y0 la 17 0 i = 0 := fun i => y 17 i (by omega) (by omega)
  have y6 : ∀ i, mm_Y0 la 6 0 i = 0 := fun i => y 6 i (by omega) (by omega)
  refine ⟨rr_T_of (fun f a b i _ => ?_) (fun f a i _ => ?_), fun k _ => by rw [x3, y23], ⟨by rw [x05, y04], ?_, ?_, ?_, ?_, fun j => ?_, fun j => ?_, fun j => ?_⟩, ⟨fun i _ => Or.inl (x24 i), fun k _ => Or.inl (x3 k), ?_, Nat.zero_le _, fun p hp => absurd hp (by omega)⟩, ⟨fun i _ => Or.inr ⟨0, by omega, ?_⟩, fun k _ => Or.inl (y23 k), ?_, Nat.zero_le _, fun p hp => absurd hp (by omega)⟩, fun p => Or.inl (x5 p), ⟨x05, h1, h2⟩, ⟨?_, ?_, Nat.zero_le _⟩, ⟨?_, Nat.zero_le _⟩, fun i _ z => absurd ?_ z, fun i _ => ⟨fun z => absurd (y17 i) z, fun _ => x24 i, fun z => absurd (y17 i) z⟩, ⟨⟨fun p => p, fun p hp => absurd hp (by omega), fun p q hp => absurd hp (by omega), fun p hp => absurd hp (by omega), fun p q _ hq => absurd hq (by omega)⟩, fun s hs => absurd hs (by omega), fun s s' hs => absurd hs (by omega)⟩, ⟨fun i _ z => absurd (y17 i) z, fun i s _ hs => absurd hs (by omega), fun k i _ hi e => ?_, fun i k _ _ z => absurd (y17 i) z⟩, fun i _ => ⟨fun z => absurd (y6 i) z, fun z => absurd (y17 i) z⟩⟩
  · rw [x 1 i f (by omega) (by omega) (by omega) (by omega), y (f + 5) i (by omega) (by omega)]
  · rw [x 2 i f (by omega) (by omega) (by omega) (by omega), y (f + 17) i (by omega) (by omega)]
  · rw [x 0 0 6 (by omega) (by omega) (by omega) (by omega), y 0 5 (by omega) (by omega)]
  · rw [x 0 0 7 (by omega) (by omega) (by omega) (by omega), y 0 35 (by omega) (by omega)]
  · rw [x 6 0 2 (by omega) (by omega) (by omega) (by omega), y 0 30 (by omega) (by omega)]
  · rw [x 9 0 1 (by omega) (by omega) (by omega) (by omega), y 0 34 (by omega) (by omega)]
  · rw [x 7 0 j (by omega) (by omega) (by omega) (by omega), y 31 j (by omega) (by omega)]
  · rw [x 8 0 j (by omega) (by omega) (by omega) (by omega), y 32 j (by omega) (by omega)]
  · rw [x 10 0 j (by omega) (by omega) (by omega) (by omega), y 33 j (by omega) (by omega)]
  · rw [x 4 0 1 (by omega) (by omega) (by omega) (by omega)]; rfl
  · rw [y 21 i (by omega) (by omega)]; rfl
  · rw [y 0 24 (by omega) (by omega)]; rfl
  · rw [x 0 0 6 (by omega) (by omega) (by omega) (by omega)]; rfl
  · rw [x 9 0 1 (by omega) (by omega) (by omega) (by omega)]; rfl
  · rw [x 6 0 2 (by omega) (by omega) (by omega) (by omega)]; rfl
  · exact x 1 i 1 (by omega) (by omega) (by omega) (by omega)
  · rw [y23] at e
    have hi : i < n := hi
    exact absurd e.symm (nI_ne1 (by omega))
