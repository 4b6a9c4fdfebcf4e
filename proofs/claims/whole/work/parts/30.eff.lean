/-! the least deadline of those that wait, in two ways -/
theorem php : ∀ (n : Nat) (f : Nat → Nat), (∀ k, k ≤ n → f k < n) → ∃ a b : Nat, a < b ∧ b ≤ n ∧ f a = f b
  | 0, f, h => absurd (h 0 (Nat.le_refl _)) (by omega)
  | n + 1, f, h => by
    by_cases q : ∃ k, k ≤ n ∧ f k = f (n + 1)
    · obtain ⟨k, h1, h2⟩ := q
      exact ⟨k, n + 1, by omega, Nat.le_refl _, h2⟩
    · have hne : ∀ k, k ≤ n → f k ≠ f (n + 1) := fun k hk e => q ⟨k, hk, e⟩
      obtain ⟨a, b, h1, h2, h3⟩ := php n (fun k => if f k < f (n + 1) then f k else f k - 1) (by
        intro k hk
        have h4 := h k (by omega)
        have h5 := h (n + 1) (Nat.le_refl _)
        have h6 := hne k hk
        split <;> omega)
      refine ⟨a, b, h1, by omega, ?_⟩
      have h6 := hne a (by omega)
      have h7 := hne b (by omega)
      split at h3 <;> split at h3 <;> omega
def db_it (nx : Nat → Int32) : Nat → Int32 → Int32
  | 0, h => h
  | k + 1, h => if h = -1 then -1 else db_it nx k (nx h.toNatClampNeg)
def db_rg (n : Nat) (nx : Nat → Int32) : Prop := ∀ s, s < n → nx s = -1 ∨ db_in (nx s) n
theorem db_it_none {nx : Nat → Int32} : ∀ k, db_it nx k (-1) = -1
  | 0 => rfl
  | k + 1 => by simp [db_it]
theorem db_it_s {nx : Nat → Int32} {k s : Nat} (hs : s < 2 ^ 31) : db_it nx (k + 1) (nI s) = db_it nx k (nx s) := by
  rw [db_it, if_neg (nI_ne1 hs), nI_clamp hs]
theorem db_it_add {nx : Nat → Int32} : ∀ (a b : Nat) (h : Int32), db_it nx (a + b) h = db_it nx b (db_it nx a h)
  | 0, b, h => by simp [db_it]
  | a + 1, b, h => by
    rw [show a + 1 + b = (a + b) + 1 by omega]
    by_cases q : h = -1
    · subst q
      rw [db_it_none, db_it_none, db_it_none]
    · rw [db_it, if_neg q, db_it, if_neg q]
      exact db_it_add a b _
theorem db_it_rg {n : Nat} {nx : Nat → Int32} (hn : n < 2 ^ 31) (hr : db_rg n nx) : ∀ (k : Nat) (h : Int32), (h = -1 ∨ db_in h n) → (db_it nx k h = -1 ∨ db_in (db_it nx k h) n)
  | 0, h, hh => hh
  | k + 1, h, hh => by
    rcases hh with q | q
    · subst q
      rw [db_it_none]; exact Or.inl rfl
    · rw [db_it, if_neg (q.ne1 hn)]
      exact db_it_rg hn hr k _ (hr _ (q.lt hn))
theorem db_it_short {n : Nat} {nx : Nat → Int32} (hn : n < 2 ^ 31) (hr : db_rg n nx) {h : Int32} (hh : h = -1 ∨ db_in h n) {t : Nat} (ht : t < n) : ∀ M : Nat, db_it nx M h = nI t → ∃ m, m < n ∧ db_it nx m h = nI t := by
  intro M
  induction M using Nat.strongRecOn with
  | _ M ih =>
    intro e
    by_cases q : M < n
    · exact ⟨M, q, e⟩
    · have hne : ∀ k, k ≤ M → db_in (db_it nx k h) n := by
        intro k hk
        rcases db_it_rg hn hr k h hh with z | z
        · have e2 := db_it_add (nx := nx) k (M - k) h
          rw [show k + (M - k) = M by omega, z, db_it_none, e] at e2
          exact absurd e2 (nI_ne1 (by omega))
        · exact z
      obtain ⟨a, b, h1, h2, h3⟩ := php n (fun k => (db_it nx k h).toNatClampNeg) (fun k hk => (hne k (by omega)).lt hn)
      have e3 : db_it nx a h = db_it nx b h := by
        rw [(hne a (by omega)).eq hn, (hne b (by omega)).eq hn]
        exact congrArg nI h3
      refine ih (a + (M - b)) (by omega) ?_
      rw [db_it_add, e3, ← db_it_add, show b + (M - b) = M by omega]
      exact e
def db_isE (n : Nat) (due nx E : Nat → Int32) : Prop := (∀ t, t < n → E t ≤ due t) ∧ (∀ s t, s < n → t < n → nx s = nI t → E t ≤ E s) ∧ ∀ t, t < n → ∃ s, s < n ∧ E t = due s ∧ ∃ m, db_it nx m (nI s) = nI t
theorem db_isE.path {n : Nat} {due nx E : Nat → Int32} (hn : n < 2 ^ 31) (hr : db_rg n nx) (h : db_isE n due nx E) {t : Nat} (ht : t < n) : ∀ (m s : Nat), s < n → db_it nx m (nI s) = nI t → E t ≤ E s
  | 0, s, hs, e => by
    have e : nI s = nI t := e
    rw [nI_eq (by omega) (by omega)] at e
    subst e
    exact Int32.le_refl _
  | m + 1, s, hs, e => by
    rw [db_it_s (by omega)] at e
    rcases hr s hs with q | ⟨u, hu, q⟩
    · rw [q, db_it_none] at e
      exact absurd e.symm (nI_ne1 (by omega))
    · rw [q] at e
      exact Int32.le_trans (db_isE.path hn hr h ht m u hu e) (h.2.1 s u hs hu q)
theorem db_isE.le {n : Nat} {due nx E E' : Nat → Int32} (hn : n < 2 ^ 31) (hr : db_rg n nx) (h : db_isE n due nx E) (h' : db_isE n due nx E') {t : Nat} (ht : t < n) : E' t ≤ E t := by
  obtain ⟨s, hs, e, m, hm⟩ := h.2.2 t ht
  rw [e]
  exact Int32.le_trans (h'.path hn hr ht m s hs hm) (h'.1 s hs)
theorem db_isE.uniq {n : Nat} {due nx E E' : Nat → Int32} (hn : n < 2 ^ 31) (hr : db_rg n nx) (h : db_isE n due nx E) (h' : db_isE n due nx E') {t : Nat} (ht : t < n) : E t = E' t :=
  Int32.le_antisymm (h'.le hn hr h ht) (h.le hn hr h' ht)
theorem db_isE.congr {n : Nat} {due due' nx nx' E E' : Nat → Int32} (h : db_isE n due nx E) (hn : n < 2 ^ 31) (hr : db_rg n nx) (h1 : ∀ t, t < n → due t = due' t) (h2 : ∀ t, t < n → nx t = nx' t) (h3 : ∀ t, t < n → E t = E' t) : db_isE n due' nx' E' := by
  refine ⟨fun t ht => by rw [← h3 t ht, ← h1 t ht]; exact h.1 t ht, fun s t hs ht e => by rw [← h3 s hs, ← h3 t ht]; exact h.2.1 s t hs ht (by rw [h2 s hs]; exact e), fun t ht => ?_⟩
  obtain ⟨s, hs, e, m, hm⟩ := h.2.2 t ht
  refine ⟨s, hs, by rw [← h3 t ht, ← h1 s hs]; exact e, m, ?_⟩
  have key : ∀ (m s : Nat), s < n → db_it nx m (nI s) = db_it nx' m (nI s) := by
    intro m
    induction m with
    | zero => intro s _; rfl
    | succ m ih =>
      intro s hs
      rw [db_it_s (by omega), db_it_s (by omega), ← h2 s hs]
      rcases hr s hs with q | ⟨u, hu, q⟩
      · rw [q, db_it_none, db_it_none]
      · rw [q]; exact ih u hu
  rw [← key m s hs]
  exact hm
/-! the class's walk up the chains -/
theorem bb_ch_le {d : Int32} : ∀ (k : Nat) (h : Int32) (X : db_X) (t : Nat), bb_ch d k h X 2 t 5 ≤ X 2 t 5
  | 0, _, _, _ => Int32.le_refl _
  | k + 1, h, X, t => by
    rw [bb_ch]
    split
    · exact Int32.le_refl _
    · refine Int32.le_trans (bb_ch_le k _ _ t) ?_
      simp only [bb_ch1, db_up]
      split
      · rename_i q
        rw [q.2.1]
        split
        · rename_i z; exact Int32.le_of_lt z
        · exact Int32.le_refl _
      · exact Int32.le_refl _
theorem bb_ch_in {d : Int32} {nx : Nat → Int32} : ∀ (k : Nat) (h : Int32) (X : db_X), (∀ i, bb_hab X i = nx i) → ∀ (t m : Nat), t < 2 ^ 31 → m < k → db_it nx m h = nI t → bb_ch d k h X 2 t 5 ≤ d
  | 0, _, _, _, _, _, _, hm, _ => absurd hm (by omega)
  | k + 1, h, X, hX, t, m, ht, hm, e => by
    have hX1 : ∀ i, bb_hab (bb_ch1 d X h.toNatClampNeg) i = nx i := fun i => (bb_ch1_s5.hab i).trans (hX i)
    rw [bb_ch]
    by_cases q : h = -1
    · subst q
      rw [db_it_none] at e
      exact absurd e.symm (nI_ne1 ht)
    · rw [if_neg q]
      cases m with
      | zero =>
        have e : h = nI t := e
        refine Int32.le_trans (bb_ch_le k _ _ t) ?_
        subst e
        rw [nI_clamp ht]
        simp only [bb_ch1, db_up, and_self, if_true]
        split
        · exact Int32.le_refl _
        · rename_i z; exact Int32.not_lt.mp z
      | succ m =>
        rw [db_it, if_neg q] at e
        rw [hX1]
        exact bb_ch_in k _ _ hX1 t m ht (by omega) e
theorem bb_ch_or {d : Int32} {nx : Nat → Int32} {n : Nat} (hn : n < 2 ^ 31) (hr : db_rg n nx) : ∀ (k : Nat) (h : Int32) (X : db_X), (∀ i, bb_hab X i = nx i) → (h = -1 ∨ db_in h n) → ∀ t : Nat, bb_ch d k h X 2 t 5 = X 2 t 5 ∨ (bb_ch d k h X 2 t 5 = d ∧ ∃ m, m < k ∧ db_it nx m h = nI t)
  | 0, _, _, _, _, _ => Or.inl rfl
  | k + 1, h, X, hX, hh, t => by
    have hX1 : ∀ i, bb_hab (bb_ch1 d X h.toNatClampNeg) i = nx i := fun i => (bb_ch1_s5.hab i).trans (hX i)
    rw [bb_ch]
    by_cases q : h = -1
    · rw [if_pos q]; exact Or.inl rfl
    · rw [if_neg q]
      have hin := hh.resolve_left q
      rw [hX1]
      rcases bb_ch_or hn hr k (nx h.toNatClampNeg) (bb_ch1 d X h.toNatClampNeg) hX1 (hr _ (hin.lt hn)) t with z | ⟨z, m, hm, e⟩
      · rw [z]
        simp only [bb_ch1, db_up]
        split
        · rename_i w
          split
          · refine Or.inr ⟨rfl, 0, by omega, ?_⟩
            show h = nI t
            rw [w.2.1]; exact hin.eq hn
          · rw [w.2.1]; exact Or.inl rfl
        · exact Or.inl rfl
      · exact Or.inr ⟨z, m + 1, by omega, by rw [db_it, if_neg q]; exact e⟩
theorem bb_in1_5 {X : db_X} : ∀ (n t : Nat), t < n → bb_in1 X n 2 t 5 = X 2 t 2
  | 0, _, h => absurd h (by omega)
  | n + 1, t, h => by
    rw [bb_in1]
    by_cases q : t = n
    · subst q
      simp only [db_up, and_self, if_true]
      exact bb_in1_s5 t 2 t 2 (by simp)
    · simp only [db_up, q, false_and, and_false, if_false]
      exact bb_in1_5 n t (by omega)
theorem bb_inh_isE {N : Nat → Nat} {X : db_X} (hN : bb_N N) (hW : bb_W N X) (hO : bb_O N X) : db_isE (N 0) (fun i => X 2 i 2) (bb_hab X) (fun i => bb_inh N X 2 i 5) := by
  have hn : N 0 < 2 ^ 31 := by have := hN.2.1; omega
  have hr : db_rg (N 0) (bb_hab X) := fun s hs => bb_hab_cases hN hW hO hs
  have s5 : ∀ i, bb_s5 (bb_in2 N (bb_in1 X (N 0)) i) X := fun i => (bb_in2_s5 i).tr (bb_in1_s5 _)
  have hX : ∀ i j, bb_hab (bb_in2 N (bb_in1 X (N 0)) i) j = bb_hab X j := fun i j => (s5 i).hab j
  have hd : ∀ i j, bb_in2 N (bb_in1 X (N 0)) i 2 j 2 = X 2 j 2 := fun i j => s5 i 2 j 2 (by simp)
  have mono : ∀ i t, bb_in2 N (bb_in1 X (N 0)) (i + 1) 2 t 5 ≤ bb_in2 N (bb_in1 X (N 0)) i 2 t 5 := fun i t => bb_ch_le _ _ _ _
  have le : ∀ k i t, bb_in2 N (bb_in1 X (N 0)) (i + k) 2 t 5 ≤ bb_in2 N (bb_in1 X (N 0)) i 2 t 5 := by
    intro k i t
    induction k with
    | zero => exact Int32.le_refl _
    | succ k ih => exact Int32.le_trans (mono (i + k) t) ih
  have inn : ∀ s t m, s < N 0 → t < N 0 → m < N 0 → db_it (bb_hab X) m (bb_hab X s) = nI t → bb_inh N X 2 t 5 ≤ X 2 s 2 := by
    intro s t m hs ht hm e
    have h1 : bb_in2 N (bb_in1 X (N 0)) (s + 1) 2 t 5 ≤ X 2 s 2 := by
      rw [bb_in2, hd]
      exact bb_ch_in _ _ _ (hX s) t m (by omega) hm (by rw [hX]; exact e)
    have h2 := le (N 0 - (s + 1)) (s + 1) t
    rw [show s + 1 + (N 0 - (s + 1)) = N 0 by omega] at h2
    exact Int32.le_trans h2 h1
  have orr : ∀ i t, i ≤ N 0 → t < N 0 → bb_in2 N (bb_in1 X (N 0)) i 2 t 5 = X 2 t 2 ∨ ∃ s, s < i ∧ bb_in2 N (bb_in1 X (N 0)) i 2 t 5 = X 2 s 2 ∧ ∃ m, m < N 0 ∧ db_it (bb_hab X) m (bb_hab X s) = nI t := by
    intro i t hi ht
    induction i with
    | zero => exact Or.inl (bb_in1_5 _ _ ht)
    | succ i ih =>
      rcases bb_ch_or (d := bb_in2 N (bb_in1 X (N 0)) i 2 i 2) hn hr (N 0) (bb_hab (bb_in2 N (bb_in1 X (N 0)) i) i) (bb_in2 N (bb_in1 X (N 0)) i) (hX i) (by rw [hX]; exact hr i (by omega)) t with z | ⟨z, m, hm, e⟩
      · rw [bb_in2, z]
        rcases ih (by omega) with w | ⟨s, h1, h2⟩
        · exact Or.inl w
        · exact Or.inr ⟨s, by omega, h2⟩
      · rw [bb_in2, z, hd]
        exact Or.inr ⟨i, by omega, rfl, m, hm, by rw [hX] at e; exact e⟩
  refine ⟨fun t ht => ?_, fun s t hs ht e => ?_, fun t ht => ?_⟩
  · have h1 := le (N 0) 0 t
    rw [Nat.zero_add] at h1
    refine Int32.le_trans h1 ?_
    show bb_in1 X (N 0) 2 t 5 ≤ _
    rw [bb_in1_5 _ _ ht]
    exact Int32.le_refl _
  · show bb_inh N X 2 t 5 ≤ bb_inh N X 2 s 5
    rcases orr (N 0) s (Nat.le_refl _) hs with z | ⟨i, hi, z, m, hm, e2⟩
    · rw [show bb_inh N X 2 s 5 = X 2 s 2 from z]
      exact inn s t 0 hs ht (by have := hN.1; omega) e
    · rw [show bb_inh N X 2 s 5 = X 2 i 2 from z]
      have e3 : db_it (bb_hab X) (m + 1) (bb_hab X i) = nI t := by
        rw [db_it_add, e2, db_it_s (by omega)]
        exact e
      obtain ⟨m', hm', e4⟩ := db_it_short hn hr (hr i hi) ht _ e3
      exact inn i t m' hi ht hm' e4
  · rcases orr (N 0) t (Nat.le_refl _) ht with z | ⟨i, hi, z, m, hm, e2⟩
    · exact ⟨t, ht, z, 0, rfl⟩
    · exact ⟨i, hi, z, m + 1, by rw [db_it_s (by omega)]; exact e2⟩
/-- the effective deadlines -/
noncomputable def db_E (n : Nat) (due nx : Nat → Int32) : Nat → Int32 := Classical.epsilon (fun E => db_isE n due nx E)
theorem db_E_eq {n : Nat} {due nx E : Nat → Int32} (hn : n < 2 ^ 31) (hr : db_rg n nx) (h : db_isE n due nx E) {t : Nat} (ht : t < n) : db_E n due nx t = E t := by
  have hx : ∃ E, db_isE n due nx E := ⟨E, h⟩
  exact (Classical.epsilon_spec hx).uniq hn hr h ht
