/-! sections in order; taking locks -/
theorem db_bs_none {sel : Nat → Bool} {wor : Nat → Nat → Bool} : ∀ n, (∀ j, j < n → sel j = false) → db_bs sel wor n = -1
  | 0, _ => rfl
  | n + 1, h => by
    unfold db_bs
    rw [h n (by omega), db_bs_none n (fun j hj => h j (by omega))]
    rfl
theorem db_bs_is {sel : Nat → Bool} {wor : Nat → Nat → Bool} {j : Nat} (hs : sel j = true) : ∀ n, n < 2 ^ 31 → j < n → (∀ s, s < n → sel s = true → s < j → wor j s = false) → (∀ s, s < n → sel s = true → j < s → wor s j = true) → db_bs sel wor n = nI j
  | 0, _, h, _, _ => absurd h (by omega)
  | n + 1, hn, hj, h1, h2 => by
    unfold db_bs
    by_cases q : j = n
    · subst q
      rw [if_pos hs]
      rcases db_bs_in (sel := sel) (wor := wor) j with z | ⟨b, hb, e, hb2⟩
      · rw [if_pos z]
      · rw [e, if_neg (nI_ne1 (by omega)), nI_clamp (by omega), h1 b (by omega) hb2 hb]
        rfl
    · have ih := db_bs_is hs n (by omega) (by omega) (fun s a b c => h1 s (by omega) b c) (fun s a b c => h2 s (by omega) b c)
      rw [ih]
      by_cases z : sel n = true
      · rw [if_pos z, if_neg (nI_ne1 (by omega)), nI_clamp (by omega), h2 n (by omega) z (by omega)]
        rfl
      · rw [if_neg z]
theorem rr_P.sur {X Y : db_X} {sz : Nat} {π : Nat → Nat} (h : rr_P X Y sz π) {s : Nat} (hs : s < sz) : ∃ p, p < sz ∧ π p = s := by
  obtain ⟨a, b, h1, h2, h3⟩ := php sz (fun k => if k < sz then π k else s) (by
    intro k _
    show (if k < sz then π k else s) < sz
    split
    · rename_i z; exact h.1 k z
    · exact hs)
  have h3 : (if a < sz then π a else s) = (if b < sz then π b else s) := h3
  rw [if_pos (by omega : a < sz)] at h3
  by_cases q : b < sz
  · rw [if_pos q] at h3
    exact absurd (h.2.1 a b (by omega) q h3) (by omega)
  · rw [if_neg q] at h3
    exact ⟨a, by omega, h3⟩
theorem rr_P.fr {X Y X' Y' : db_X} {sz : Nat} {π : Nat → Nat} (h : rr_P X Y sz π) (hx : ∀ p f, bb_sec X' p f = bb_sec X p f) (hy : ∀ r s, 25 ≤ r → r ≤ 28 → Y' r 0 s = Y r 0 s) : rr_P X' Y' sz π := by
  refine ⟨h.1, h.2.1, fun p hp => ?_, fun p q hp hq => ?_⟩
  · rw [hx, hx, hx, hx, hx, hy 25 _ (by decide) (by decide), hy 26 _ (by decide) (by decide), hy 27 _ (by decide) (by decide), hy 28 _ (by decide) (by decide)]
    exact h.2.2.1 p hp
  · have := h.2.2.2 p q hp hq
    unfold rr_lt at this ⊢
    rw [hy 27 _ (by decide) (by decide), hy 27 _ (by decide) (by decide), hy 28 _ (by decide) (by decide), hy 28 _ (by decide) (by decide)]
    exact this
theorem rr_N1.fr {N : Nat → Nat} {Y Y' : db_X} {s : Nat} (h : rr_N1 N Y s) (hy : ∀ r s, (r = 6 ∨ r = 8 ∨ (25 ≤ r ∧ r ≤ 28)) → Y' r 0 s = Y r 0 s) : rr_N1 N Y' s := by
  unfold rr_N1 at h ⊢
  rw [hy 25 _ (by omega), hy 26 _ (by omega), hy 27 _ (by omega), hy 28 _ (by omega)]
  obtain ⟨t, k, b, g, h1, h2, h3, h4, h5, h6, h7, h8, h9, h10⟩ := h
  exact ⟨t, k, b, g, h1, h2, h3, h4, h5, h6, h7, h8, by rw [hy 6 _ (by omega)]; exact h9, by rw [hy 8 _ (by omega)]; exact h10⟩
theorem rr_S.fr {N : Nat → Nat} {X Y X' Y' : db_X} {sz : Nat} (h : rr_S N X Y sz) (hx : ∀ p f, bb_sec X' p f = bb_sec X p f) (hy : ∀ r s, (r = 6 ∨ r = 8 ∨ (25 ≤ r ∧ r ≤ 28)) → Y' r 0 s = Y r 0 s) : rr_S N X' Y' sz := by
  obtain ⟨⟨π, h1⟩, h2, h3⟩ := h
  refine ⟨⟨π, h1.fr hx (fun r s a b => hy r s (by omega))⟩, fun s hs => (h2 s hs).fr hy, fun s s' a b c d => ?_⟩
  unfold rr_ov at d
  rw [hy 25 _ (by omega), hy 25 _ (by omega), hy 27 _ (by omega), hy 27 _ (by omega), hy 28 _ (by omega), hy 28 _ (by omega)] at d
  rw [hy 26 _ (by omega), hy 26 _ (by omega)]
  exact h3 s s' a b c d
theorem rr_in.fr {Y Y' : db_X} {i s u : Nat} (hy : ∀ r s, 25 ≤ r → r ≤ 28 → Y' r 0 s = Y r 0 s) : rr_in Y' i s u ↔ rr_in Y i s u := by
  unfold rr_in
  rw [hy 25 _ (by decide) (by decide), hy 27 _ (by decide) (by decide), hy 28 _ (by decide) (by decide)]
/-- the locks' rule, when holders and waiters change -/
theorem rr_L.mk {N : Nat → Nat} {Y Y' : db_X} {sz : Nat} (h : rr_L N Y sz) (hN1 : ∀ s, s < sz → rr_N1 N Y s) (hN : bb_N N) (fr : ∀ r i, (r = 17 ∨ r = 20 ∨ r = 8 ∨ (25 ≤ r ∧ r ≤ 28)) → Y' r 0 i = Y r 0 i)
    (h2 : ∀ k j, k < N 1 → j < N 0 → Y 23 0 k = nI j → Y' 23 0 k = nI j)
    (h3 : ∀ k j, k < N 1 → j < N 0 → Y' 23 0 k = nI j → Y 23 0 k = nI j ∨ (¬ Y 17 0 j = 0 ∧ ∃ s, s < sz ∧ rr_in Y j s (Y 20 0 j).toNatClampNeg ∧ Y 26 0 s = nI k))
    (h4 : ∀ j k, j < N 0 → k < N 1 → ¬ Y 17 0 j = 0 → Y' 21 0 j = nI k → Y 21 0 j = nI k ∨ ∃ s, s < sz ∧ rr_in Y j s (Y 20 0 j).toNatClampNeg ∧ Y 26 0 s = nI k) : rr_L N Y' sz := by
  obtain ⟨l1, l2, l3, l4⟩ := h
  have hin : ∀ {i s u}, rr_in Y' i s u ↔ rr_in Y i s u := rr_in.fr (fun r s a b => fr r s (by omega))
  refine ⟨fun i hi => ?_, fun i s hi hs => ?_, fun k i hk hi e => ?_, fun i k hi hk hpp e => ?_⟩
  · rw [fr 17 _ (by omega), fr 20 _ (by omega), fr 8 _ (by omega)]; exact l1 i hi
  · rw [fr 17 _ (by omega), fr 20 _ (by omega), fr 27 _ (by omega), fr 26 _ (by omega), hin]
    intro a b c
    obtain ⟨t, k, b', g, -, hk, -, -, -, e6, -⟩ := hN1 s hs
    have := l2 i s hi hs a b c
    rw [e6, nI_clamp (by have := hN.2.2.1; omega)] at this ⊢
    exact h2 k i hk hi this
  · rw [fr 17 _ (by omega), fr 20 _ (by omega)]
    rcases h3 k i hk hi e with q | ⟨q1, s, q2, q3, q4⟩
    · obtain ⟨a, s, b, c, d⟩ := l3 k i hk hi q
      exact ⟨a, s, b, hin.mpr c, by rw [fr 26 _ (by omega)]; exact d⟩
    · exact ⟨q1, s, q2, hin.mpr q3, by rw [fr 26 _ (by omega)]; exact q4⟩
  · rw [fr 17 _ (by omega)] at hpp
    rw [fr 20 _ (by omega)]
    rcases h4 i k hi hk hpp e with q | ⟨s, q2, q3, q4⟩
    · obtain ⟨s, b, c, d⟩ := l4 i k hi hk hpp q
      exact ⟨s, b, hin.mpr c, by rw [fr 26 _ (by omega)]; exact d⟩
    · exact ⟨s, q2, hin.mpr q3, by rw [fr 26 _ (by omega)]; exact q4⟩
theorem rr_L.rk {N : Nat → Nat} {Y : db_X} {sz : Nat} (h : rr_L N Y sz) (hN1 : ∀ s, s < sz → rr_N1 N Y s) (hN : bb_N N) : rr_L N (mm_rk N Y) sz := by
  have e : ∀ r i, ¬ r = 29 → mm_rk N Y r 0 i = Y r 0 i := fun r i z => mm_rk_s r 0 i (fun w => z w.1)
  refine h.mk hN1 hN (fun r i z => e r i (by omega)) (fun k j _ _ z => by rw [e 23 k (by decide)]; exact z) (fun k j _ _ z => Or.inl (by rw [e 23 k (by decide)] at z; exact z)) (fun j k _ _ _ z => Or.inl (by rw [e 21 j (by decide)] at z; exact z))
/-- section s of i begins at the unit that i is at -/
def rr_bg (Y : db_X) (i s : Nat) : Prop := Y 25 0 s = nI i ∧ Y 27 0 s = Y 20 0 i
theorem rr_bg.inn {N : Nat → Nat} {Y : db_X} {i s : Nat} (h : rr_bg Y i s) (h1 : rr_N1 N Y s) : rr_in Y i s (Y 20 0 i).toNatClampNeg := by
  obtain ⟨t, k, b, g, -, -, hg, hbg, -, -, e7, e8, -⟩ := h1
  have h2 := h.2
  refine ⟨h.1, ?_, ?_⟩
  · rw [h2]; exact Nat.le_refl _
  · rw [← h2, e7, e8, nI_clamp (by omega), nI_clamp (by omega)]; omega
theorem rr_L.hold {N : Nat → Nat} {Y : db_X} {sz i s k : Nat} (h : rr_L N Y sz) (hN1 : ∀ s, s < sz → rr_N1 N Y s) (hN : bb_N N) (hi : i < N 0) (hs : s < sz) (hb : rr_bg Y i s) (hk : Y 26 0 s = nI k) (hf : Y 23 0 k = -1) (hp : ¬ Y 17 0 i = 0) : rr_L N (db_up Y 23 0 k (nI i)) sz := by
  refine h.mk hN1 hN (fun r j z => up_k (by omega)) (fun k' j _ hj z => ?_) (fun k' j _ hj z => ?_) (fun j k' _ _ _ z => Or.inl (by rw [up_k (by decide)] at z; exact z))
  · by_cases q : k' = k
    · subst q; rw [hf] at z; exact absurd z.symm (nI_ne1 (by have := hN.2.1; omega))
    · rw [up_f q]; exact z
  · by_cases q : k' = k
    · subst q
      rw [up_at, nI_eq (by have := hN.2.1; omega) (by have := hN.2.1; omega)] at z
      subst z
      exact Or.inr ⟨hp, s, hs, hb.inn (hN1 s hs), hk⟩
    · rw [up_f q] at z; exact Or.inl z
theorem rr_L.wait {N : Nat → Nat} {Y : db_X} {sz i s k : Nat} (h : rr_L N Y sz) (hN1 : ∀ s, s < sz → rr_N1 N Y s) (hN : bb_N N) (hk1 : k < N 1) (hs : s < sz) (hb : rr_bg Y i s) (hk : Y 26 0 s = nI k) : rr_L N (db_up Y 21 0 i (nI k)) sz := by
  refine h.mk hN1 hN (fun r j z => up_k (by omega)) (fun k' j _ hj z => by rw [up_k (by decide)]; exact z) (fun k' j _ hj z => Or.inl (by rw [up_k (by decide)] at z; exact z)) (fun j k' _ hk' _ z => ?_)
  by_cases q : j = i
  · subst q
    rw [up_at, nI_eq (by have := hN.2.2.1; omega) (by have := hN.2.2.1; omega)] at z
    subst z
    exact Or.inr ⟨s, hs, hb.inn (hN1 s hs), hk⟩
  · rw [up_f q] at z; exact Or.inl z
def rr_all (Y : db_X) (sz i : Nat) : Prop := ∀ s, s < sz → rr_bg Y i s → Y 23 0 (Y 26 0 s).toNatClampNeg = nI i
def mm_SK (k _f : Nat) : Bool := k == 29 || k == 23 || k == 21
theorem mm_rk_SK {N : Nat → Nat} {Y : db_X} : bb_fr mm_SK (mm_rk N Y) Y := by
  intro k i f q
  refine mm_rk_s k i f ?_
  rintro ⟨rfl, -, -⟩
  cases q
/-- the reference wants the section at place p, where all before it is held -/
theorem rr_want {N : Nat → Nat} {X Y : db_X} {sz i p : Nat} {π : Nat → Nat} (hN2 : sz < 2 ^ 31) (hP : rr_P X Y sz π) (hp : p < sz) (hb : rr_bg Y i (π p)) (hh : ¬ Y 23 0 (Y 26 0 (π p)).toNatClampNeg = nI i)
    (hlow : ∀ p', p' < p → rr_bg Y i (π p') → Y 23 0 (Y 26 0 (π p')).toNatClampNeg = nI i) : mm_want Y sz i = nI (π p) := by
  have hsel : ∀ s, s < sz → mm_wsel Y i s = true → s = π p ∨ ∃ p', p < p' ∧ p' < sz ∧ s = π p' ∧ Y 27 0 s = Y 27 0 (π p) := by
    intro s hs h
    obtain ⟨p', hp', rfl⟩ := hP.sur hs
    simp only [mm_wsel, decide_eq_true_eq] at h
    by_cases q1 : p' < p
    · exact absurd (hlow p' q1 ⟨h.1, h.2.1⟩) h.2.2
    · by_cases q2 : p' = p
      · subst q2; exact Or.inl rfl
      · exact Or.inr ⟨p', by omega, hp', rfl, by rw [h.2.1, hb.2]⟩
  unfold mm_want
  refine db_bs_is ?_ sz hN2 (hP.1 p hp) (fun s hs h hlt => ?_) (fun s hs h hlt => ?_)
  · simp only [mm_wsel, decide_eq_true_eq]
    exact ⟨hb.1, hb.2, hh⟩
  · rcases hsel s hs h with q | ⟨p', h1, h2, rfl, e⟩
    · omega
    · have := hP.2.2.2 p p' h1 h2
      unfold rr_lt at this
      rw [e] at this
      simp only [mm_wwor, decide_eq_false_iff_not]
      intro z
      rcases this with w | ⟨-, w | ⟨-, w⟩⟩
      · exact absurd w Int32.lt_irrefl
      · exact absurd z (Int32.not_le.mpr w)
      · omega
  · rcases hsel s hs h with q | ⟨p', h1, h2, rfl, e⟩
    · omega
    · have := hP.2.2.2 p p' h1 h2
      unfold rr_lt at this
      rw [e] at this
      simp only [mm_wwor, decide_eq_true_eq]
      rcases this with w | ⟨-, w | ⟨w, -⟩⟩
      · exact absurd w Int32.lt_irrefl
      · exact Int32.le_of_lt w
      · rw [w]; exact Int32.le_refl _
theorem rr_want0 {Y : db_X} {sz i : Nat} (h : rr_all Y sz i) : mm_want Y sz i = -1 := by
  refine db_bs_none sz (fun s hs => ?_)
  simp only [mm_wsel, decide_eq_false_iff_not]
  intro z
  exact z.2.2 (h s hs ⟨z.1, z.2.1⟩)
theorem bb_sec_up {X : db_X} {k i f : Nat} {v : Int32} (h5 : ¬ k = 5) (h12 : ¬ k = 12) (p g : Nat) : bb_sec (db_up X k i f v) p g = bb_sec X p g := by
  unfold bb_sec
  rw [up_k (fun z => h5 z.symm), up_k (fun z => h12 z.symm)]
theorem bb_sec_fr {S : Nat → Nat → Bool} {X Y : db_X} (h : bb_fr S X Y) (h5 : ∀ f, S 5 f = false) (h12 : ∀ f, S 12 f = false) (p g : Nat) : bb_sec X p g = bb_sec Y p g := by
  unfold bb_sec
  rw [h 5 0 p (h5 p), h 12 _ g (h12 g)]
theorem take_step {N : Nat → Nat} {sz i : Nat} {π : Nat → Nat} (hN : bb_N N) (hi : i < N 0) (hsz : sz ≤ N 2) : ∀ (m p : Nat) (X Y : db_X) (F : Nat), p + m = sz → rc N X Y → rr_P X Y sz π → (∀ s, s < sz → rr_N1 N Y s) → rr_L N Y sz → ¬ Y 17 0 i = 0 → Y 21 0 i = -1 →
    (∀ p', p' < p → rr_bg Y i (π p') → Y 23 0 (Y 26 0 (π p')).toNatClampNeg = nI i) → mm_mea N Y < F →
    ((bb_takeF i m p X).1 = 1 ∧ ∃ Y', mm_tkF N sz F (nI i) Y = (nI i, Y') ∧ rc N (bb_takeF i m p X).2 Y' ∧ rr_L N Y' sz ∧ rr_all Y' sz i ∧ Y' 21 0 i = -1 ∧ bb_fr mm_SK Y' Y) ∨
    ((bb_takeF i m p X).1 = 0 ∧ ∃ Y' F', mm_tkF N sz F (nI i) Y = mm_tkF N sz F' (mm_ahead N (mm_rk N Y') (-1)) (mm_rk N Y') ∧ rc N (bb_takeF i m p X).2 Y' ∧ rr_L N Y' sz ∧ mm_mea N Y' < F' ∧ db_cn (mm_rdy N Y') (N 0) + 1 = db_cn (mm_rdy N Y) (N 0) ∧ bb_fr mm_SK Y' Y)
  | 0, p, X, Y, F, hpm, hc, hP, hS, hL, hp, hw, hlow, hF => by
    have hall : rr_all Y sz i := by
      intro s hs hb
      obtain ⟨p', hp', rfl⟩ := hP.sur hs
      exact hlow p' (by omega) hb
    refine Or.inl ⟨rfl, Y, ?_, hc, hL, hall, hw, bb_fr.rf⟩
    cases F with
    | zero => omega
    | succ F =>
      have h0 : i < 2 ^ 31 := by have := hN.2.1; omega
      unfold mm_tkF
      rw [if_neg (nI_ne1 h0), nI_clamp h0, rr_want0 hall, if_pos rfl]
  | m + 1, p, X, Y, F, hpm, hc, hP, hS, hL, hp, hw, hlow, hF => by
    have h0 : i < 2 ^ 31 := by have := hN.2.1; omega
    have hsz2 : sz < 2 ^ 31 := by have := hN.2.2.2.1; omega
    have hpp : p < sz := by omega
    obtain ⟨e0, e1, e2, e3, e4⟩ := hP.2.2.1 p hpp
    have eu : X 2 i 3 = Y 20 0 i := hc.1 3 (by decide) i hi
    have ext : ∀ Y1 : db_X, (rr_bg Y1 i (π p) → Y1 23 0 (Y1 26 0 (π p)).toNatClampNeg = nI i) → (∀ p', p' < p → rr_bg Y1 i (π p') → Y1 23 0 (Y1 26 0 (π p')).toNatClampNeg = nI i) → ∀ p', p' < p + 1 → rr_bg Y1 i (π p') → Y1 23 0 (Y1 26 0 (π p')).toNatClampNeg = nI i := by
      intro Y1 h1 h2 p' hp' hb
      by_cases q : p' = p
      · subst q; exact h1 hb
      · exact h2 p' (by omega) hb
    unfold bb_takeF
    rw [e0, e1, eu]
    by_cases q0 : Y 25 0 (π p) = nI i
    · rw [if_neg (fun z => z q0)]
      by_cases q1 : Y 27 0 (π p) = Y 20 0 i
      · rw [if_neg (fun z => z q1), e2]
        have hb : rr_bg Y i (π p) := ⟨q0, q1⟩
        have hps : π p < sz := hP.1 p hpp
        obtain ⟨t, k, b, g, -, hk, -, -, -, e6, -⟩ := hS (π p) hps
        have hk31 : k < 2 ^ 31 := by have := hN.2.2.1; omega
        have ek : X 3 0 k = Y 23 0 k := hc.2.1 k hk
        rw [e6, nI_clamp hk31, ek]
        by_cases q2 : Y 23 0 k = -1
        · rw [if_pos q2]
          have hwant : mm_want Y sz i = nI (π p) := rr_want (N := N) hsz2 hP hpp hb (by rw [e6, nI_clamp hk31, q2]; exact fun z => nI_ne1 h0 z.symm) hlow
          cases F with
          | zero => omega
          | succ F =>
            have hmea := mm_mea23 h0 hk q2
            have hrec := take_step hN hi hsz m (p + 1) (db_up X 3 0 k (nI i)) (db_up Y 23 0 k (nI i)) F (by omega) (hc.up3 (Or.inr ⟨i, hi, rfl⟩)) (hP.fr (bb_sec_up (by decide) (by decide)) (fun r s _ _ => up_k (by omega))) (fun s hs => (hS s hs).fr (fun r s _ => up_k (by omega))) (hL.hold hS hN hi hps hb e6 q2 hp) (by rw [up_k (by decide)]; exact hp) (by rw [up_k (by decide)]; exact hw)
              (ext _ (fun _ => by rw [up_k (k' := 26) (by decide), e6, nI_clamp hk31, up_at]) (fun p' hp' hb' => by
                have hb2 : rr_bg Y i (π p') := hb'
                have h5 := hlow p' hp' hb2
                rw [up_k (k' := 26) (by decide)]
                by_cases z : (Y 26 0 (π p')).toNatClampNeg = k
                · rw [z, up_at]
                · rw [up_f z]; exact h5)) (by omega)
            have etk : mm_tkF N sz (F + 1) (nI i) Y = mm_tkF N sz F (nI i) (db_up Y 23 0 k (nI i)) := by
              conv => lhs; unfold mm_tkF
              rw [if_neg (nI_ne1 h0), nI_clamp h0, hwant, if_neg (nI_ne1 (by omega)), nI_clamp (by omega), e6, nI_clamp hk31, if_pos q2]
            have er : db_cn (mm_rdy N (db_up Y 23 0 k (nI i))) (N 0) = db_cn (mm_rdy N Y) (N 0) := db_cn_congr _ (fun j _ => by unfold mm_rdy; rw [mm_isP_up (by decide)]; simp [db_up])
            rw [etk]
            rcases hrec with ⟨a, Y', b1, b2, b3, b4, b5, b6⟩ | ⟨a, Y', F', b1, b2, b3, b4, b5, b6⟩
            · exact Or.inl ⟨a, Y', b1, b2, b3, b4, b5, b6.tr (bb_fr.up rfl)⟩
            · exact Or.inr ⟨a, Y', F', b1, b2, b3, b4, by rw [b5, er], b6.tr (bb_fr.up rfl)⟩
        · rw [if_neg q2]
          by_cases q3 : Y 23 0 k = nI i
          · rw [if_pos q3]
            exact take_step hN hi hsz m (p + 1) X Y F (by omega) hc hP hS hL hp hw (ext Y (fun _ => by rw [e6, nI_clamp hk31]; exact q3) hlow) hF
          · rw [if_neg q3]
            refine Or.inr ⟨rfl, db_up Y 21 0 i (nI k), F - 1, ?_, ?_, hL.wait hS hN hk hps hb e6, ?_, ?_, bb_fr.up rfl⟩
            · have hwant : mm_want Y sz i = nI (π p) := rr_want (N := N) hsz2 hP hpp hb (by rw [e6, nI_clamp hk31]; exact q3) hlow
              cases F with
              | zero => omega
              | succ F =>
                rw [Nat.add_sub_cancel]
                conv => lhs; unfold mm_tkF
                rw [if_neg (nI_ne1 h0), nI_clamp h0, hwant, if_neg (nI_ne1 (by omega)), nI_clamp (by omega), e6, nI_clamp hk31, if_neg q2]
            · exact hc.up4 hN (Or.inr ⟨⟨k, hk, rfl⟩, hp⟩)
            · have h0' : N 0 < 2 ^ 31 := by have := hN.2.1; omega
              have := mm_mea21 (v := nI k) hi (fun z => hp ((rr_isPn h0' hc.2.2.2.2 hi).mp z)) hw (nI_ne1 hk31)
              omega
            · have h0' : N 0 < 2 ^ 31 := by have := hN.2.1; omega
              have hpi := fun z => hp ((rr_isPn h0' hc.2.2.2.2 hi).mp z)
              refine db_cn_lt (k := i) ?_ ?_ _ hi ?_
              · unfold mm_rdy
                rw [mm_isP_up (by decide)]
                simp [db_up, nI_ne1 hk31]
              · simp [mm_rdy, hw]
                exact hpi
              · intro j _ q
                unfold mm_rdy
                rw [mm_isP_up (by decide)]
                simp [db_up, q]
      · rw [if_pos q1]
        exact take_step hN hi hsz m (p + 1) X Y F (by omega) hc hP hS hL hp hw (ext Y (fun z => absurd z.2 q1) hlow) hF
    · rw [if_pos q0]
      exact take_step hN hi hsz m (p + 1) X Y F (by omega) hc hP hS hL hp hw (ext Y (fun z => absurd z.1 q0) hlow) hF
