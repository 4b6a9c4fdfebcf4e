/-! who runs -/
theorem db_cn0 {f : Nat → Bool} : ∀ n, db_cn f n = 0 → ∀ j, j < n → f j = false
  | 0, _, j, hj => absurd hj (by omega)
  | n + 1, h, j, hj => by
    rw [db_cn] at h
    by_cases q : j = n
    · subst q
      cases e : f j with
      | false => rfl
      | true => rw [e, if_pos rfl] at h; omega
    · exact db_cn0 n (by omega) j (by omega)
theorem run_step {N : Nat → Nat} {sz : Nat} (hN : bb_N N) (hsz : sz ≤ N 2) : ∀ (q : Nat) (X Y : db_X) (F : Nat), rc N X Y → rr_S N X Y sz → rr_L N Y sz → db_cn (mm_rdy N Y) (N 0) ≤ q → mm_mea N Y < F →
    ∃ r Y', mm_tkF N sz F (mm_ahead N (mm_rk N Y) (-1)) (mm_rk N Y) = (r, Y') ∧ (bb_runF N sz q X).1 = r ∧ bb_fr mm_SK Y' Y ∧ rr_L N Y' sz ∧
      ((r = -1 ∧ rc N (bb_runF N sz q X).2 Y' ∧ bb_fr bb_SG (bb_runF N sz q X).2 X) ∨ ∃ i X1, i < N 0 ∧ r = nI i ∧ (bb_runF N sz q X).2 = bb_work N X1 sz i ∧ rc N X1 Y' ∧ rr_all Y' sz i ∧ ¬ Y' 17 0 i = 0 ∧ Y' 21 0 i = -1 ∧ bb_fr bb_SG X1 X)
  | 0, X, Y, F, hc, hS, hL, hq, hF => by
    have hn : N 0 < 2 ^ 31 := by have := hN.2.1; omega
    have ha : mm_ahead N (mm_rk N Y) (-1) = -1 := by
      by_cases z : mm_ahead N (mm_rk N Y) (-1) = -1
      · exact z
      · have h1 := mm_ahead_ready hn z
        have h2 := (mm_ahead_in z).lt hn
        have h3 := db_cn0 (N 0) (Nat.le_zero.mp hq) _ h2
        rw [mm_rk_s.isP, mm_rk_s 21 0 _ (by omega)] at h1
        simp only [mm_rdy, decide_eq_false_iff_not] at h3
        exact absurd h1 h3
    cases F with
    | zero => omega
    | succ F =>
      refine ⟨-1, mm_rk N Y, ?_, rfl, mm_rk_SK, hL.rk hS.2.1 hN, Or.inl ⟨rfl, hc.inhL, bb_fr.rf⟩⟩
      unfold mm_tkF
      rw [ha, if_pos rfl]
  | q + 1, X, Y, F, hc, hS, hL, hq, hF => by
    have hn : N 0 < 2 ^ 31 := by have := hN.2.1; omega
    have hc1 := hc.inh
    have hL1 := hL.rk hS.2.1 hN
    have hinh : bb_fr bb_SG (bb_inh N X) X := bb_inh_fr.mono bb_S5_SG
    unfold bb_runF
    rw [hc.ahead hN]
    by_cases z : mm_ahead N (mm_rk N Y) (-1) = -1
    · rw [if_pos z]
      cases F with
      | zero => omega
      | succ F =>
        refine ⟨-1, mm_rk N Y, ?_, rfl, mm_rk_SK, hL1, Or.inl ⟨rfl, hc1, hinh⟩⟩
        unfold mm_tkF
        rw [if_pos z]
    · rw [if_neg z]
      have h1 := mm_ahead_ready hn z
      obtain ⟨i, hi, ei⟩ := mm_ahead_in z
      rw [ei, db_nIc hi hn] at h1 ⊢
      have hp : ¬ mm_rk N Y 17 0 i = 0 := fun w => h1.1 ((rr_isPn hn hc1.2.2.2.2 hi).mpr w)
      have eY : ∀ r s, ¬ r = 29 → mm_rk N Y r 0 s = Y r 0 s := fun r s w => mm_rk_s r 0 s (fun w2 => w w2.1)
      have hS1 : rr_S N (bb_inh N X) (mm_rk N Y) sz := hS.fr (fun p f => bb_inh_s5.sec p f) (fun r s w => eY r s (by omega))
      obtain ⟨π, hP⟩ := hS1.1
      have hm : mm_mea N (mm_rk N Y) < F := by rw [mm_rk_s.mea]; exact hF
      have hrd : db_cn (mm_rdy N (mm_rk N Y)) (N 0) = db_cn (mm_rdy N Y) (N 0) := db_cn_congr _ (fun j _ => by unfold mm_rdy; rw [mm_rk_s.isP, mm_rk_s 21 0 j (by omega)])
      have htf : bb_fr bb_SG (bb_take (bb_inh N X) sz i).2 X := (bb_takeF_fr _ _ _).tr hinh
      rcases take_step hN hi hsz sz 0 (bb_inh N X) (mm_rk N Y) F (by omega) hc1 hP hS1.2.1 hL1 hp h1.2 (fun p' hp' => absurd hp' (by omega)) hm with ⟨a, Y', b1, b2, b3, b4, b5, b6⟩ | ⟨a, Y', F', b1, b2, b3, b4, b5, b6⟩
      · have a' : (bb_take (bb_inh N X) sz i).1 = 1 := a
        rw [a', if_neg (by decide)]
        refine ⟨nI i, Y', b1, rfl, b6.tr mm_rk_SK, b3, Or.inr ⟨i, (bb_take (bb_inh N X) sz i).2, hi, rfl, rfl, b2, b4, ?_, b5, htf⟩⟩
        rw [b6 17 0 i rfl]; exact hp
      · have a' : (bb_take (bb_inh N X) sz i).1 = 0 := a
        rw [a', if_pos rfl]
        have hfr : bb_fr mm_SK Y' Y := b6.tr mm_rk_SK
        have hS2 : rr_S N (bb_take (bb_inh N X) sz i).2 Y' sz := hS.fr (bb_sec_fr htf (fun _ => rfl) (fun _ => rfl)) (fun r s w => hfr r 0 s (by simp [mm_SK]; omega))
        obtain ⟨r, Y2, c1, c2, c3, c4, c5⟩ := run_step hN hsz q (bb_take (bb_inh N X) sz i).2 Y' F' b2 hS2 b3 (by omega) b4
        refine ⟨r, Y2, by rw [b1, c1], c2, c3.tr hfr, c4, ?_⟩
        rcases c5 with ⟨d1, d2, d3⟩ | ⟨j, X1, d1, d2, d3, d4, d5, d6, d7, d8⟩
        · exact Or.inl ⟨d1, d2, d3.tr htf⟩
        · exact Or.inr ⟨j, X1, d1, d2, d3, d4, d5, d6, d7, d8.tr htf⟩
/-! letting go, point by point -/
theorem mm_lg_pt {N : Nat → Nat} {Y : db_X} {k0 : Nat} (hN : bb_N N) : ∃ a : Int32, (∀ k, mm_lg N Y k0 23 0 k = if k = k0 then a else Y 23 0 k) ∧ ((a = -1 ∧ ∀ j, mm_lg N Y k0 21 0 j = Y 21 0 j) ∨ ∃ h, h < N 0 ∧ a = nI h ∧ Y 21 0 h = nI k0 ∧ ¬ Y 17 0 h = 0 ∧ ∀ j, mm_lg N Y k0 21 0 j = if j = h then -1 else Y 21 0 j) := by
  have hn : N 0 < 2 ^ 31 := by have := hN.2.1; omega
  have e21 : ∀ j, mm_rk N (db_up Y 23 0 k0 (-1)) 21 0 j = Y 21 0 j := fun j => (mm_rk_s 21 0 j (by omega)).trans (up_k (by decide))
  have e23 : ∀ k, ¬ k = k0 → mm_rk N (db_up Y 23 0 k0 (-1)) 23 0 k = Y 23 0 k := fun k z => (mm_rk_s 23 0 k (by omega)).trans (up_f z)
  have e23' : mm_rk N (db_up Y 23 0 k0 (-1)) 23 0 k0 = -1 := (mm_rk_s 23 0 k0 (by omega)).trans up_at
  unfold mm_lg mm_lg2
  split
  · refine ⟨-1, fun k => ?_, Or.inl ⟨rfl, e21⟩⟩
    by_cases z : k = k0
    · rw [if_pos z, z]; exact e23'
    · rw [if_neg z]; exact e23 k z
  · rename_i q
    have h1 := mm_ahead_ready hn q
    obtain ⟨i, hi, ei⟩ := mm_ahead_in q
    rw [ei, db_nIc hi hn] at h1
    rw [ei]
    refine ⟨nI i, fun k => ?_, Or.inr ⟨i, hi, rfl, (e21 i).symm.trans h1.2, ?_, fun j => ?_⟩⟩
    · unfold mm_lg3
      rw [up_k (by decide)]
      by_cases z : k = k0
      · rw [if_pos z, z, up_at]
      · rw [if_neg z, up_f z]; exact e23 k z
    · intro z
      refine h1.1 ?_
      rw [mm_rk_s.isP, mm_isP_up (by decide), mm_isP_n hn hi, z]
      simp
    · unfold mm_lg3
      rw [db_nIc hi hn]
      by_cases z : j = i
      · rw [if_pos z, z, up_at]
      · rw [if_neg z, up_f z, up_k (by decide)]; exact e21 j
theorem mm_lg_SK {N : Nat → Nat} {Y : db_X} {k : Nat} : bb_fr mm_SK (mm_lg N Y k) Y := mm_lg_fr
theorem mm_dropL_SK {N : Nat → Nat} {X : db_X} {i : Nat} : ∀ k : Nat, bb_fr mm_SK (mm_dropL N X i k) X
  | 0 => bb_fr.rf
  | k + 1 => by
    unfold mm_dropL
    split
    · exact mm_lg_SK.tr (mm_dropL_SK k)
    · exact mm_dropL_SK k
/-- the locks' rule while i lets go of all: those from K on it may still hold -/
def rr_LD (N : Nat → Nat) (Y : db_X) (sz i K : Nat) : Prop :=
  (∀ i, i < N 0 → ¬ Y 17 0 i = 0 → ∃ u : Nat, Y 20 0 i = nI u ∧ u < (Y 8 0 i).toNatClampNeg) ∧
  (∀ i s, i < N 0 → s < sz → ¬ Y 17 0 i = 0 → rr_in Y i s (Y 20 0 i).toNatClampNeg → (Y 27 0 s).toNatClampNeg < (Y 20 0 i).toNatClampNeg → Y 23 0 (Y 26 0 s).toNatClampNeg = nI i) ∧
  (∀ k j, k < N 1 → j < N 0 → Y 23 0 k = nI j → (j = i ∧ K ≤ k) ∨ (¬ Y 17 0 j = 0 ∧ ∃ s, s < sz ∧ rr_in Y j s (Y 20 0 j).toNatClampNeg ∧ Y 26 0 s = nI k)) ∧
  (∀ i k, i < N 0 → k < N 1 → ¬ Y 17 0 i = 0 → Y 21 0 i = nI k → ∃ s, s < sz ∧ rr_in Y i s (Y 20 0 i).toNatClampNeg ∧ Y 26 0 s = nI k)
theorem rr_LD.lg {N : Nat → Nat} {Y : db_X} {sz i K : Nat} (h : rr_LD N Y sz i K) (hN : bb_N N) (hi : i < N 0) (hK : K < N 1) (hp : Y 17 0 i = 0) (hh : Y 23 0 K = nI i) : rr_LD N (mm_lg N Y K) sz i (K + 1) := by
  obtain ⟨l1, l2, l3, l4⟩ := h
  have hn : N 0 < 2 ^ 31 := by have := hN.2.1; omega
  have hn1 : N 1 < 2 ^ 31 := by have := hN.2.2.1; omega
  obtain ⟨a, p23, p21⟩ := mm_lg_pt (N := N) (Y := Y) (k0 := K) hN
  have fr : ∀ r s, ¬ r = 29 → ¬ r = 23 → ¬ r = 21 → mm_lg N Y K r 0 s = Y r 0 s := fun r s h1 h2 h3 => mm_lg_SK r 0 s (by simp [mm_SK]; omega)
  have hin : ∀ {i s u}, rr_in (mm_lg N Y K) i s u ↔ rr_in Y i s u := rr_in.fr (fun r s a b => fr r s (by omega) (by omega) (by omega))
  have le21 : ∀ j k, k < N 1 → mm_lg N Y K 21 0 j = nI k → Y 21 0 j = nI k := by
    intro j k hk e
    rcases p21 with ⟨-, w⟩ | ⟨x, -, -, -, -, w⟩
    · rw [w] at e; exact e
    · rw [w] at e
      split at e
      · exact absurd e.symm (nI_ne1 (by omega))
      · exact e
  refine ⟨fun j hj => ?_, fun j s hj hs => ?_, fun k j hk hj e => ?_, fun j k hj hk hpp e => ?_⟩
  · rw [fr 17 _ (by omega) (by omega) (by omega), fr 20 _ (by omega) (by omega) (by omega), fr 8 _ (by omega) (by omega) (by omega)]; exact l1 j hj
  · rw [fr 17 _ (by omega) (by omega) (by omega), fr 20 _ (by omega) (by omega) (by omega), fr 27 _ (by omega) (by omega) (by omega), fr 26 _ (by omega) (by omega) (by omega), hin]
    intro b c d
    have h5 := l2 j s hj hs b c d
    rw [p23, if_neg]
    · exact h5
    · intro z
      rw [z, hh, nI_eq (by omega) (by omega)] at h5
      subst h5
      exact b hp
  · rw [fr 17 _ (by omega) (by omega) (by omega), fr 20 _ (by omega) (by omega) (by omega)]
    rw [p23] at e
    by_cases z : k = K
    · rw [if_pos z] at e
      refine Or.inr ?_
      rcases p21 with ⟨w, -⟩ | ⟨x, hx, w1, w2, w3, -⟩
      · rw [w] at e; exact absurd e.symm (nI_ne1 (by omega))
      · rw [w1, nI_eq (by omega) (by omega)] at e
        subst e; subst z
        obtain ⟨s, c1, c2, c3⟩ := l4 x k hx hk w3 w2
        exact ⟨w3, s, c1, hin.mpr c2, by rw [fr 26 _ (by omega) (by omega) (by omega)]; exact c3⟩
    · rw [if_neg z] at e
      rcases l3 k j hk hj e with ⟨c1, c2⟩ | ⟨c1, s, c2, c3, c4⟩
      · exact Or.inl ⟨c1, by omega⟩
      · exact Or.inr ⟨c1, s, c2, hin.mpr c3, by rw [fr 26 _ (by omega) (by omega) (by omega)]; exact c4⟩
  · rw [fr 17 _ (by omega) (by omega) (by omega)] at hpp
    rw [fr 20 _ (by omega) (by omega) (by omega)]
    obtain ⟨s, c1, c2, c3⟩ := l4 j k hj hk hpp (le21 j k hk e)
    exact ⟨s, c1, hin.mpr c2, by rw [fr 26 _ (by omega) (by omega) (by omega)]; exact c3⟩
theorem rr_LD.dropL {N : Nat → Nat} {Y : db_X} {sz i : Nat} (h : rr_LD N Y sz i 0) (hN : bb_N N) (hi : i < N 0) (hp : Y 17 0 i = 0) : ∀ k, k ≤ N 1 → rr_LD N (mm_dropL N Y i k) sz i k
  | 0, _ => h
  | k + 1, hk => by
    have ih := rr_LD.dropL h hN hi hp k (by omega)
    unfold mm_dropL
    split
    · rename_i z
      exact ih.lg hN hi (by omega) (by rw [mm_dropL_SK k 17 0 i rfl]; exact hp) z
    · rename_i z
      refine ⟨ih.1, ih.2.1, fun k' j hk' hj e => ?_, ih.2.2.2⟩
      rcases ih.2.2.1 k' j hk' hj e with ⟨c1, c2⟩ | c
      · refine Or.inl ⟨c1, ?_⟩
        by_cases w : k' = k
        · subst w; subst c1; exact absurd e z
        · omega
      · exact Or.inr c
theorem mm_drop_17 {N : Nat → Nat} {Y : db_X} {i j : Nat} : mm_drop N Y i 17 0 j = if j = i then 0 else Y 17 0 j := by
  unfold mm_drop
  rw [mm_dropL_SK _ 17 0 j rfl]
  unfold mm_drop0
  by_cases q : j = i <;> simp [db_up, q]
theorem rr_L.drop {N : Nat → Nat} {Y : db_X} {sz i : Nat} (h : rr_L N Y sz) (hN : bb_N N) (hi : i < N 0) : rr_L N (mm_drop N Y i) sz := by
  obtain ⟨l1, l2, l3, l4⟩ := h
  have hn1 : N 1 < 2 ^ 31 := by have := hN.2.2.1; omega
  have e17 : ∀ j, mm_drop0 Y i 17 0 j = if j = i then 0 else Y 17 0 j := fun j => by
    unfold mm_drop0
    by_cases q : j = i <;> simp [db_up, q]
  have e21 : ∀ j, mm_drop0 Y i 21 0 j = if j = i then -1 else Y 21 0 j := fun j => by
    unfold mm_drop0
    by_cases q : j = i <;> simp [db_up, q]
  have fr : ∀ r s, ¬ r = 17 → ¬ r = 22 → ¬ r = 21 → mm_drop0 Y i r 0 s = Y r 0 s := fun r s h1 h2 h3 => by
    unfold mm_drop0
    rw [up_k h2, up_k h3, up_k h1]
  have hin : ∀ {j s u}, rr_in (mm_drop0 Y i) j s u ↔ rr_in Y j s u := rr_in.fr (fun r s a b => fr r s (by omega) (by omega) (by omega))
  have h0 : rr_LD N (mm_drop0 Y i) sz i 0 := by
    refine ⟨fun j hj => ?_, fun j s hj hs => ?_, fun k j hk hj => ?_, fun j k hj hk => ?_⟩
    · rw [e17, fr 20 _ (by omega) (by omega) (by omega), fr 8 _ (by omega) (by omega) (by omega)]
      split
      · intro z; exact absurd rfl z
      · exact l1 j hj
    · rw [e17, fr 20 _ (by omega) (by omega) (by omega), fr 27 _ (by omega) (by omega) (by omega), fr 26 _ (by omega) (by omega) (by omega), fr 23 _ (by omega) (by omega) (by omega), hin]
      split
      · intro z; exact absurd rfl z
      · exact l2 j s hj hs
    · rw [e17, fr 20 _ (by omega) (by omega) (by omega), fr 23 _ (by omega) (by omega) (by omega)]
      intro e
      by_cases z : j = i
      · exact Or.inl ⟨z, by omega⟩
      · rw [if_neg z]
        obtain ⟨c1, s, c2, c3, c4⟩ := l3 k j hk hj e
        exact Or.inr ⟨c1, s, c2, hin.mpr c3, by rw [fr 26 _ (by omega) (by omega) (by omega)]; exact c4⟩
    · rw [e17, e21, fr 20 _ (by omega) (by omega) (by omega)]
      split
      · intro z; exact absurd rfl z
      · intro hpp e
        obtain ⟨s, c2, c3, c4⟩ := l4 j k hj hk hpp e
        exact ⟨s, c2, hin.mpr c3, by rw [fr 26 _ (by omega) (by omega) (by omega)]; exact c4⟩
  have h1 := h0.dropL hN hi (by rw [e17, if_pos rfl]) (N 1) (Nat.le_refl _)
  refine ⟨h1.1, h1.2.1, fun k j hk hj e => ?_, h1.2.2.2⟩
  rcases h1.2.2.1 k j hk hj e with ⟨-, c⟩ | c
  · omega
  · exact c
/-! working: section s of i ends at the unit that i is at -/
def rr_en (Y : db_X) (i s : Nat) : Prop := Y 25 0 s = nI i ∧ Y 27 0 s + Y 28 0 s = Y 20 0 i
theorem rr_en.fr {Y Y' : db_X} {i s : Nat} (hy : ∀ r s, (r = 20 ∨ (25 ≤ r ∧ r ≤ 28)) → Y' r 0 s = Y r 0 s) : rr_en Y' i s ↔ rr_en Y i s := by
  unfold rr_en
  rw [hy 25 _ (by omega), hy 27 _ (by omega), hy 28 _ (by omega), hy 20 _ (by omega)]
def rr_WK (N : Nat → Nat) (sz i : Nat) (Y Y' : db_X) : Prop := bb_fr mm_SK Y' Y ∧
  (∀ k j, k < N 1 → j < N 0 → Y' 23 0 k = nI j → Y 23 0 k = nI j ∨ (j ≠ i ∧ Y 21 0 j = nI k ∧ ¬ Y 17 0 j = 0)) ∧
  (∀ k j, k < N 1 → j < N 0 → Y 23 0 k = nI j → (j ≠ i ∨ ¬ ∃ s, s < sz ∧ rr_en Y i s ∧ Y 26 0 s = nI k) → Y' 23 0 k = nI j) ∧
  (∀ j k, k < N 1 → Y' 21 0 j = nI k → Y 21 0 j = nI k)
theorem rr_WK.rf {N : Nat → Nat} {sz i : Nat} {Y : db_X} : rr_WK N sz i Y Y := ⟨bb_fr.rf, fun _ _ _ _ h => Or.inl h, fun _ _ _ _ h _ => h, fun _ _ _ h => h⟩
theorem rr_WK.tr {N : Nat → Nat} {sz i : Nat} {Y Y' Y'' : db_X} (h1 : rr_WK N sz i Y' Y'') (h : rr_WK N sz i Y Y') : rr_WK N sz i Y Y'' := by
  refine ⟨h1.1.tr h.1, fun k j hk hj e => ?_, fun k j hk hj e c => ?_, fun j k hk e => h.2.2.2 j k hk (h1.2.2.2 j k hk e)⟩
  · rcases h1.2.1 k j hk hj e with q | ⟨q1, q2, q3⟩
    · exact h.2.1 k j hk hj q
    · exact Or.inr ⟨q1, h.2.2.2 j k hk q2, by rw [← h.1 17 0 j rfl]; exact q3⟩
  · refine h1.2.2.1 k j hk hj (h.2.2.1 k j hk hj e c) ?_
    rcases c with c | c
    · exact Or.inl c
    · refine Or.inr (fun ⟨s, a, b, d⟩ => c ⟨s, a, ?_, ?_⟩)
      · exact (rr_en.fr (fun r s w => h.1 r 0 s (by simp [mm_SK]; omega))).mp b
      · rw [← h.1 26 0 s rfl]; exact d
theorem rr_WK.lg {N : Nat → Nat} {sz i s k0 : Nat} {Y : db_X} (hN : bb_N N) (hi : i < N 0) (hk0 : k0 < N 1) (hs : s < sz) (he : rr_en Y i s) (hk : Y 26 0 s = nI k0) (hh : Y 23 0 k0 = nI i) (hw : Y 21 0 i = -1) : rr_WK N sz i Y (mm_lg N Y k0) ∧ ¬ mm_lg N Y k0 23 0 k0 = nI i ∧ (∀ k, ¬ k = k0 → mm_lg N Y k0 23 0 k = Y 23 0 k) := by
  have hn : N 0 < 2 ^ 31 := by have := hN.2.1; omega
  have hn1 : N 1 < 2 ^ 31 := by have := hN.2.2.1; omega
  obtain ⟨a, p23, p21⟩ := mm_lg_pt (N := N) (Y := Y) (k0 := k0) hN
  refine ⟨⟨mm_lg_SK, fun k j hk hj e => ?_, fun k j hk hj e c => ?_, fun j k hk e => ?_⟩, ?_, fun k z => by rw [p23, if_neg z]⟩
  · rw [p23] at e
    by_cases z : k = k0
    · rw [if_pos z] at e
      rcases p21 with ⟨w, -⟩ | ⟨x, hx, w1, w2, w3, -⟩
      · rw [w] at e; exact absurd e.symm (nI_ne1 (by omega))
      · rw [w1, nI_eq (by omega) (by omega)] at e
        subst e; subst z
        refine Or.inr ⟨fun z => ?_, w2, w3⟩
        rw [z, hw] at w2
        exact nI_ne1 (by omega) w2.symm
    · rw [if_neg z] at e; exact Or.inl e
  · rw [p23, if_neg]
    · exact e
    · intro z
      subst z
      rcases c with c | c
      · rw [hh, nI_eq (by omega) (by omega)] at e
        exact c e.symm
      · exact c ⟨s, hs, he, by assumption⟩
  · rcases p21 with ⟨-, w⟩ | ⟨x, -, -, -, -, w⟩
    · rw [w] at e; exact e
    · rw [w] at e
      split at e
      · exact absurd e.symm (nI_ne1 (by omega))
      · exact e
  · rw [p23, if_pos rfl]
    intro e
    rcases p21 with ⟨w, -⟩ | ⟨x, hx, w1, w2, -⟩
    · rw [w] at e; exact nI_ne1 (by omega) e.symm
    · rw [w1, nI_eq (by omega) (by omega)] at e
      subst e
      rw [hw] at w2
      exact nI_ne1 (by omega) w2.symm
theorem work_loop {N : Nat → Nat} {sz i : Nat} {π : Nat → Nat} (hN : bb_N N) (hi : i < N 0) (hsz : sz ≤ N 2) : ∀ (p : Nat) (X Y : db_X) (F : Nat), p ≤ sz → rc N X Y → rr_P X Y sz π → (∀ s, s < sz → rr_N1 N Y s) → Y 21 0 i = -1 →
    (∀ p', p' < sz → rr_en Y i (π p') → (Y 23 0 (Y 26 0 (π p')).toNatClampNeg = nI i ↔ p' < p)) →
    (∀ s s', s < sz → s' < sz → s ≠ s' → rr_en Y i s → rr_en Y i s' → ¬ Y 26 0 s = Y 26 0 s') → db_cn (mm_hld Y i) (N 1) < F →
    rc N (bb_workL N i p X) (mm_wkF N sz i F Y) ∧ rr_WK N sz i Y (mm_wkF N sz i F Y) ∧ (∀ s, s < sz → rr_en Y i s → ¬ mm_wkF N sz i F Y 23 0 (Y 26 0 s).toNatClampNeg = nI i) ∧ mm_wkF N sz i F Y 21 0 i = -1
  | 0, X, Y, F, hp, hc, hP, hS, hw, hinv, hdis, hF => by
    have hend : mm_end Y sz i = -1 := by
      refine db_bs_none sz (fun s hs => ?_)
      obtain ⟨p', hp', rfl⟩ := hP.sur hs
      simp only [mm_esel, decide_eq_false_iff_not]
      intro z
      exact absurd ((hinv p' hp' ⟨z.1, z.2.1⟩).mp z.2.2) (by omega)
    have e : mm_wkF N sz i F Y = Y := by
      cases F with
      | zero => rfl
      | succ F =>
        unfold mm_wkF
        rw [if_pos hend]
    rw [e]
    refine ⟨hc, rr_WK.rf, fun s hs he => ?_, hw⟩
    obtain ⟨p', hp', rfl⟩ := hP.sur hs
    intro z
    exact absurd ((hinv p' hp' he).mp z) (by omega)
  | p + 1, X, Y, F, hp, hc, hP, hS, hw, hinv, hdis, hF => by
    have h0 : i < 2 ^ 31 := by have := hN.2.1; omega
    have hsz2 : sz < 2 ^ 31 := by have := hN.2.2.2.1; omega
    have hpp : p < sz := by omega
    obtain ⟨e0, e1, e2, e3, e4⟩ := hP.2.2.1 p hpp
    have eu : X 2 i 3 = Y 20 0 i := hc.1 3 (by decide) i hi
    unfold bb_workL
    rw [e0, e4, eu]
    have skip : ¬ rr_en Y i (π p) → ∀ p', p' < sz → rr_en Y i (π p') → (Y 23 0 (Y 26 0 (π p')).toNatClampNeg = nI i ↔ p' < p) := by
      intro z p' hp' he
      rw [hinv p' hp' he]
      have : p' ≠ p := fun w => z (w ▸ he)
      omega
    by_cases q0 : Y 25 0 (π p) = nI i
    · rw [if_neg (fun z => z q0)]
      by_cases q1 : Y 27 0 (π p) + Y 28 0 (π p) = Y 20 0 i
      · rw [if_neg (fun z => z q1), e2]
        have he : rr_en Y i (π p) := ⟨q0, q1⟩
        have hps : π p < sz := hP.1 p hpp
        obtain ⟨t, k, b, g, -, hk, -, -, -, e6, -⟩ := hS (π p) hps
        have hk31 : k < 2 ^ 31 := by have := hN.2.2.1; omega
        have hh : Y 23 0 k = nI i := by
          have := (hinv p hpp he).mpr (by omega)
          rw [e6, nI_clamp hk31] at this
          exact this
        rw [e6, nI_clamp hk31]
        have hend : mm_end Y sz i = nI (π p) := by
          have hsel : ∀ s, s < sz → mm_esel Y i s = true → s = π p ∨ ∃ p', p' < p ∧ s = π p' ∧ rr_en Y i s := by
            intro s hs h
            obtain ⟨p', hp', rfl⟩ := hP.sur hs
            simp only [mm_esel, decide_eq_true_eq] at h
            have := (hinv p' hp' ⟨h.1, h.2.1⟩).mp h.2.2
            by_cases q2 : p' = p
            · subst q2; exact Or.inl rfl
            · exact Or.inr ⟨p', by omega, rfl, h.1, h.2.1⟩
          have hord : ∀ p', p' < p → rr_en Y i (π p') → Y 27 0 (π p') < Y 27 0 (π p) ∨ (Y 27 0 (π p') = Y 27 0 (π p) ∧ π p' < π p) := by
            intro p' h1 h2
            rcases hP.2.2.2 p' p h1 hpp with w | ⟨w1, w2⟩
            · exact Or.inl w
            · refine Or.inr ⟨w1, ?_⟩
              have h3 : Y 27 0 (π p') + Y 28 0 (π p') = Y 27 0 (π p) + Y 28 0 (π p) := by rw [h2.2, q1]
              have h4 : Y 28 0 (π p') = Y 28 0 (π p) := by
                rw [w1] at h3
                exact (Int32.add_right_inj _).mp h3
              rcases w2 with w2 | ⟨-, w2⟩
              · rw [h4] at w2; exact absurd w2 Int32.lt_irrefl
              · exact w2
          unfold mm_end
          refine db_bs_is ?_ sz hsz2 hps (fun s hs h hlt => ?_) (fun s hs h hlt => ?_)
          · simp only [mm_esel, decide_eq_true_eq]
            exact ⟨q0, q1, by rw [e6, nI_clamp hk31]; exact hh⟩
          · simp only [mm_ewor, decide_eq_false_iff_not]
            rcases hsel s hs h with q | ⟨p', h1, rfl, h2⟩
            · omega
            · rcases hord p' h1 h2 with w | ⟨w, -⟩
              · exact fun z => absurd (Int32.lt_trans z w) Int32.lt_irrefl
              · rw [w]; exact Int32.lt_irrefl
          · simp only [mm_ewor, decide_eq_true_eq]
            rcases hsel s hs h with q | ⟨p', h1, rfl, h2⟩
            · omega
            · rcases hord p' h1 h2 with w | ⟨-, w⟩
              · exact w
              · omega
        obtain ⟨g1, g2, g3⟩ := rr_WK.lg hN hi hk hps he e6 hh hw
        obtain ⟨g4, g5⟩ := mm_lg_hld hN hi hk hw hh
        have fr : ∀ r s, ¬ r = 29 → ¬ r = 23 → ¬ r = 21 → mm_lg N Y k r 0 s = Y r 0 s := fun r s h1 h2 h3 => mm_lg_SK r 0 s (by simp [mm_SK]; omega)
        have hen : ∀ {s}, rr_en (mm_lg N Y k) i s ↔ rr_en Y i s := rr_en.fr (fun r s _ => fr r s (by omega) (by omega) (by omega))
        cases F with
        | zero => omega
        | succ F =>
          have ew : mm_wkF N sz i (F + 1) Y = mm_wkF N sz i F (mm_lg N Y k) := by
            conv => lhs; unfold mm_wkF
            rw [hend, if_neg (nI_ne1 (by omega)), nI_clamp (by omega), e6, nI_clamp hk31]
          rw [ew]
          obtain ⟨r1, r2, r3, r4⟩ := work_loop hN hi hsz p (bb_letGo N X k) (mm_lg N Y k) F (by omega) (hc.letGo hN k) (hP.fr (bb_sec_fr bb_letGo_fr (fun _ => rfl) (fun _ => rfl)) (fun r s _ _ => fr r s (by omega) (by omega) (by omega))) (fun s hs => (hS s hs).fr (fun r s _ => fr r s (by omega) (by omega) (by omega))) g5
            (by
              intro p' hp' he'
              have he2 := hen.mp he'
              rw [fr 26 _ (by omega) (by omega) (by omega)]
              obtain ⟨t', k', b', g', -, hk', -, -, -, e6', -⟩ := hS (π p') (hP.1 p' hp')
              have hk31' : k' < 2 ^ 31 := by have := hN.2.2.1; omega
              by_cases w : p' = p
              · subst w
                rw [e6, nI_clamp hk31]
                constructor
                · intro z; exact absurd z g2
                · intro z; omega
              · have hne : ¬ k' = k := by
                  intro z
                  refine hdis (π p') (π p) (hP.1 p' hp') hps (fun z2 => w (hP.2.1 _ _ hp' hpp z2)) he2 he ?_
                  rw [e6', e6, z]
                have h7 := hinv p' hp' he2
                rw [e6', nI_clamp hk31'] at h7 ⊢
                rw [g3 k' hne, h7]
                omega)
            (by
              intro s s' a b c d e
              rw [fr 26 _ (by omega) (by omega) (by omega), fr 26 _ (by omega) (by omega) (by omega)]
              exact hdis s s' a b c (hen.mp d) (hen.mp e)) (by omega)
          refine ⟨r1, r2.tr g1, fun s hs he' => ?_, r4⟩
          have := r3 s hs (hen.mpr he')
          rw [fr 26 _ (by omega) (by omega) (by omega)] at this
          exact this
      · rw [if_pos q1]
        exact work_loop hN hi hsz p X Y F (by omega) hc hP hS hw (skip (fun z => q1 z.2)) hdis hF
    · rw [if_pos q0]
      exact work_loop hN hi hsz p X Y F (by omega) hc hP hS hw (skip (fun z => q0 z.1)) hdis hF
