/-! the heart of the relation: jobs and locks -/
theorem up_at {X : db_X} {k i f : Nat} {v : Int32} : db_up X k i f v k i f = v := by simp [db_up]
theorem up_o {X : db_X} {k i f k' i' f' : Nat} {v : Int32} (h : ¬ (k' = k ∧ i' = i ∧ f' = f)) : db_up X k i f v k' i' f' = X k' i' f' := by
  simp only [db_up]
  exact if_neg h
theorem up_k {X : db_X} {k i f k' i' f' : Nat} {v : Int32} (h : ¬ k' = k) : db_up X k i f v k' i' f' = X k' i' f' := up_o (fun z => h z.1)
theorem up_i {X : db_X} {k i f k' i' f' : Nat} {v : Int32} (h : ¬ i' = i) : db_up X k i f v k' i' f' = X k' i' f' := up_o (fun z => h z.2.1)
theorem up_f {X : db_X} {k i f k' i' f' : Nat} {v : Int32} (h : ¬ f' = f) : db_up X k i f v k' i' f' = X k' i' f' := up_o (fun z => h z.2.2)
def rt2 (N : Nat → Nat) (X Y : db_X) : Prop := ∀ f, f ≤ 3 → ∀ i, i < N 0 → X 2 i f = Y (f + 17) 0 i
def rt1 (N : Nat → Nat) (X Y : db_X) : Prop := ∀ f, 1 ≤ f → f ≤ 11 → ∀ i, i < N 0 → X 1 i f = Y (f + 5) 0 i
theorem rr_T.t1 {N : Nat → Nat} {X Y : db_X} (h : rr_T N X Y) : rt1 N X Y := fun f h1 h2 i hi => rr.tk1 h f i h1 h2 hi
theorem rr_T.t2 {N : Nat → Nat} {X Y : db_X} (h : rr_T N X Y) : rt2 N X Y := fun f h1 i hi => rr.tk2 h f i h1 hi
theorem rr_T_of {N : Nat → Nat} {X Y : db_X} (h1 : rt1 N X Y) (h2 : rt2 N X Y) : rr_T N X Y := by
  intro r h6 h21 i hi
  unfold rr_k rr_f
  by_cases q : r ≤ 16
  · rw [if_pos q, if_pos q, h1 (r - 5) (by omega) (by omega) i hi, show r - 5 + 5 = r by omega]
  · rw [if_neg q, if_neg q, h2 (r - 17) (by omega) i hi, show r - 17 + 17 = r by omega]
theorem rt2.up {N : Nat → Nat} {X Y : db_X} (h : rt2 N X Y) {f i r : Nat} {v w : Int32} (hf : f ≤ 3) (hr : r = f + 17) (hv : v = w) : rt2 N (db_up X 2 i f v) (db_up Y r 0 i w) := by
  subst hr; subst hv
  intro f' hf' j hj
  by_cases q : f' = f ∧ j = i
  · obtain ⟨rfl, rfl⟩ := q
    rw [up_at, up_at]
  · rw [up_o (fun z => q ⟨z.2.2, z.2.1⟩), up_o (fun z => q ⟨by omega, z.2.2⟩)]
    exact h f' hf' j hj
theorem rt1.up {N : Nat → Nat} {X Y : db_X} (h : rt1 N X Y) {f i r : Nat} {v w : Int32} (hr : r = f + 5) (hv : v = w) : rt1 N (db_up X 1 i f v) (db_up Y r 0 i w) := by
  subst hr; subst hv
  intro f' h1 h2 j hj
  by_cases q : f' = f ∧ j = i
  · obtain ⟨rfl, rfl⟩ := q
    rw [up_at, up_at]
  · rw [up_o (fun z => q ⟨z.2.2, z.2.1⟩), up_o (fun z => q ⟨by omega, z.2.2⟩)]
    exact h f' h1 h2 j hj
theorem rt2.fr {N : Nat → Nat} {X Y X' Y' : db_X} (h : rt2 N X Y) (hx : ∀ i f, f ≤ 3 → X' 2 i f = X 2 i f) (hy : ∀ r i, 17 ≤ r → r ≤ 20 → Y' r 0 i = Y r 0 i) : rt2 N X' Y' := fun f hf i hi => by
  rw [hx i f hf, hy (f + 17) i (by omega) (by omega)]; exact h f hf i hi
theorem rt1.fr {N : Nat → Nat} {X Y X' Y' : db_X} (h : rt1 N X Y) (hx : ∀ i f, X' 1 i f = X 1 i f) (hy : ∀ r i, 6 ≤ r → r ≤ 16 → Y' r 0 i = Y r 0 i) : rt1 N X' Y' := fun f h1 h2 i hi => by
  rw [hx i f, hy (f + 5) i (by omega) (by omega)]; exact h f h1 h2 i hi
theorem rr_J.fr {N : Nat → Nat} {X Y X' Y' : db_X} (h : rr_J N X Y) (hx : ∀ i f, (f = 4 ∨ f = 6) → X' 2 i f = X 2 i f) (hy : ∀ r i, (r = 6 ∨ r = 17 ∨ r = 21 ∨ r = 22) → Y' r 0 i = Y r 0 i) : rr_J N X' Y' := by
  intro i hi
  rw [hx i 4 (by omega), hx i 6 (by omega), hy 6 i (by omega), hy 17 i (by omega), hy 21 i (by omega), hy 22 i (by omega)]
  exact h i hi
def rc (N : Nat → Nat) (X Y : db_X) : Prop := rt2 N X Y ∧ rr_H N X Y ∧ mm_W N Y ∧ mm_O N Y ∧ rr_J N X Y
theorem rc.W {N : Nat → Nat} {X Y : db_X} (h : rc N X Y) : bb_W N X := fun i hi => by
  obtain ⟨-, b, c⟩ := h.2.2.2.2 i hi
  by_cases q : Y 17 0 i = 0
  · exact Or.inl (b q)
  · rw [(c q).2.1]; exact (c q).2.2
theorem rc.O {N : Nat → Nat} {X Y : db_X} (hN : bb_N N) (h : rc N X Y) : bb_O N X := fun k hk => by
  rw [h.2.1 k hk]; exact h.2.2.2.1 k (by have := hN.2.2.1; omega)
theorem rc.nx {N : Nat → Nat} {X Y : db_X} (hN : bb_N N) (h : rc N X Y) {i : Nat} (hi : i < N 0) : bb_hab X i = mm_nx N Y i := by
  have hn : N 0 < 2 ^ 31 := by have := hN.2.1; omega
  have hn1 : N 1 < 2 ^ 31 := by have := hN.2.2.1; omega
  obtain ⟨-, b, c⟩ := h.2.2.2.2 i hi
  unfold bb_hab mm_nx
  by_cases q : mm_isP N Y (nI i) = 0
  · rw [if_pos q, if_pos (b ((rr_isPn hn h.2.2.2.2 hi).mp q))]
  · have hp : ¬ Y 17 0 i = 0 := fun z => q ((rr_isPn hn h.2.2.2.2 hi).mpr z)
    rw [if_neg q, (c hp).2.1]
    by_cases z : Y 21 0 i = -1
    · rw [if_pos z, if_pos z]
    · rw [if_neg z, if_neg z]
      exact h.2.1 _ (((c hp).2.2.resolve_left z).lt hn1)
theorem rc.E {N : Nat → Nat} {X Y : db_X} (hN : bb_N N) (h : rc N X Y) {t : Nat} (ht : t < N 0) : bb_inh N X 2 t 5 = mm_rk N Y 29 0 t := by
  have hn : N 0 < 2 ^ 31 := by have := hN.2.1; omega
  have h1 := bb_inh_isE hN h.W (h.O hN)
  have h2 : db_isE (N 0) (fun i => Y 19 0 i) (mm_nx N Y) (fun i => bb_inh N X 2 i 5) := h1.congr hn (fun s hs => bb_hab_cases hN h.W (h.O hN) hs) (fun i hi => h.1 2 (by decide) i hi) (fun i hi => h.nx hN hi) (fun _ _ => rfl)
  unfold mm_rk
  rw [if_pos ⟨rfl, rfl, ht⟩]
  exact (db_E_eq hn (mm_nx_rg hN h.2.2.1 h.2.2.2.1) h2 ht).symm
theorem rc.inh {N : Nat → Nat} {X Y : db_X} (h : rc N X Y) : rc N (bb_inh N X) (mm_rk N Y) := by
  refine ⟨h.1.fr (fun i f hf => bb_inh_s5 2 i f (by omega)) (fun r i h1 h2 => mm_rk_s r 0 i (by omega)), fun k hk => ?_, fun i hi => ?_, fun k hk => ?_, h.2.2.2.2.fr (fun i f hf => bb_inh_s5 2 i f (by omega)) (fun r i hr => mm_rk_s r 0 i (by omega))⟩
  · rw [bb_inh_s5 3 0 k (by omega), mm_rk_s 23 0 k (by omega)]; exact h.2.1 k hk
  · rw [mm_rk_s 21 0 i (by omega)]; exact h.2.2.1 i hi
  · rw [mm_rk_s 23 0 k (by omega)]; exact h.2.2.2.1 k hk
theorem rc.inhL {N : Nat → Nat} {X Y : db_X} (h : rc N X Y) : rc N X (mm_rk N Y) := by
  refine ⟨h.1.fr (fun i f hf => rfl) (fun r i h1 h2 => mm_rk_s r 0 i (by omega)), fun k hk => ?_, fun i hi => ?_, fun k hk => ?_, h.2.2.2.2.fr (fun i f hf => rfl) (fun r i hr => mm_rk_s r 0 i (by omega))⟩
  · rw [mm_rk_s 23 0 k (by omega)]; exact h.2.1 k hk
  · rw [mm_rk_s 21 0 i (by omega)]; exact h.2.2.1 i hi
  · rw [mm_rk_s 23 0 k (by omega)]; exact h.2.2.2.1 k hk
theorem db_ah_congr {sel sel' : Nat → Bool} {ef ef' : Nat → Int32} : ∀ n : Nat, n < 2 ^ 31 → (∀ j, j < n → sel j = sel' j) → (∀ j, j < n → ef j = ef' j) → db_ah sel ef n = db_ah sel' ef' n
  | 0, _, _, _ => rfl
  | n + 1, hn, h1, h2 => by
    have ih := db_ah_congr n (by omega) (fun j hj => h1 j (by omega)) (fun j hj => h2 j (by omega))
    unfold db_ah
    rw [ih, h1 n (by omega), h2 n (by omega)]
    rcases db_ah_in (sel := sel') (ef := ef') n with q | ⟨j, hj, e, -⟩
    · rw [q]; simp
    · rw [e, nI_clamp (by omega), h2 j (by omega)]
theorem rc.ahead {N : Nat → Nat} {X Y : db_X} (hN : bb_N N) (h : rc N X Y) (a : Int32) : bb_ahead N (bb_inh N X) a = mm_ahead N (mm_rk N Y) a := by
  have hn : N 0 < 2 ^ 31 := by have := hN.2.1; omega
  have h1 := h.inh
  refine db_ah_congr _ hn (fun j hj => ?_) (fun j hj => h.E hN hj)
  rw [h1.1 0 (by decide) j hj]
  simp only [rr_isPn hn h1.2.2.2.2 hj]
  by_cases z : mm_rk N Y 17 0 j = 0
  · simp [z]
  · rw [((h1.2.2.2.2 j hj).2.2 z).2.1]
theorem rr_H.up {N : Nat → Nat} {X Y : db_X} (h : rr_H N X Y) {k : Nat} {v w : Int32} (hv : v = w) : rr_H N (db_up X 3 0 k v) (db_up Y 23 0 k w) := by
  subst hv
  intro k' hk
  by_cases q : k' = k
  · subst q; rw [up_at, up_at]
  · rw [up_f q, up_f q]; exact h k' hk
theorem rr_H.fr {N : Nat → Nat} {X Y X' Y' : db_X} (h : rr_H N X Y) (hx : ∀ k, X' 3 0 k = X 3 0 k) (hy : ∀ k, Y' 23 0 k = Y 23 0 k) : rr_H N X' Y' := fun k hk => by rw [hx, hy]; exact h k hk
/-- a lock gets a holder, or none -/
theorem rc.up3 {N : Nat → Nat} {X Y : db_X} (h : rc N X Y) {k : Nat} {v : Int32} (hv : v = -1 ∨ db_in v (N 0)) : rc N (db_up X 3 0 k v) (db_up Y 23 0 k v) := by
  refine ⟨h.1.fr (fun i f _ => up_k (by decide)) (fun r i _ _ => up_k (by omega)), h.2.1.up rfl, fun i hi => by rw [up_k (by decide)]; exact h.2.2.1 i hi, fun k' hk => ?_, h.2.2.2.2.fr (fun i f hf => up_k (by decide)) (fun r i hr => up_k (by omega))⟩
  by_cases q : k' = k
  · subst q; rw [up_at]; exact hv
  · rw [up_f q]; exact h.2.2.2.1 k' hk
/-- a job waits, or waits no more -/
theorem rc.up4 {N : Nat → Nat} {X Y : db_X} (hN : bb_N N) (h : rc N X Y) {i : Nat} {v : Int32} (hv : v = -1 ∨ (db_in v (N 1) ∧ ¬ Y 17 0 i = 0)) : rc N (db_up X 2 i 4 v) (db_up Y 21 0 i v) := by
  refine ⟨h.1.fr (fun j f hf => up_f (by omega)) (fun r j _ _ => up_k (by omega)), h.2.1.fr (fun k => up_k (by decide)) (fun k => up_k (by decide)), fun j hj => ?_, fun k' hk => by rw [up_k (by decide)]; exact h.2.2.2.1 k' hk, fun j hj => ?_⟩
  · by_cases q : j = i
    · subst q; rw [up_at]; exact hv.imp id (fun z => z.1.mono hN.2.2.1)
    · rw [up_f q]; exact h.2.2.1 j hj
  · obtain ⟨a, b, c⟩ := h.2.2.2.2 j hj
    rw [up_k (k' := 17) (by decide), up_k (k' := 6) (by decide), up_k (k' := 22) (by decide), up_f (f' := 6) (by decide)]
    by_cases q : j = i
    · subst q
      rw [up_at, up_at]
      refine ⟨a, fun z => ?_, fun z => ⟨(c z).1, rfl, hv.imp id (fun z => z.1)⟩⟩
      rcases hv with w | w
      · exact w
      · exact absurd z w.2
    · rw [up_i q, up_f q]; exact ⟨a, b, c⟩
theorem rc.letGo {N : Nat → Nat} {X Y : db_X} (hN : bb_N N) (h : rc N X Y) (k : Nat) : rc N (bb_letGo N X k) (mm_lg N Y k) := by
  have h1 := h.up3 (k := k) (v := -1) (Or.inl rfl)
  unfold bb_letGo bb_lg2 mm_lg mm_lg2
  rw [h1.ahead hN]
  split
  · exact h1.inh
  · rename_i q
    exact (h1.inh.up3 (Or.inr (mm_ahead_in q))).up4 hN (Or.inl rfl)
theorem rc.dropL {N : Nat → Nat} {X Y : db_X} (hN : bb_N N) (h : rc N X Y) (i : Nat) : ∀ k, k ≤ N 1 → rc N (bb_dropL N X i k) (mm_dropL N Y i k)
  | 0, _ => h
  | k + 1, hk => by
    have ih := rc.dropL hN h i k (by omega)
    unfold bb_dropL mm_dropL
    rw [ih.2.1 k (by omega)]
    split
    · exact ih.letGo hN k
    · exact ih
theorem rc.drop {N : Nat → Nat} {X Y : db_X} (hN : bb_N N) (h : rc N X Y) (i : Nat) : rc N (bb_drop N X i) (mm_drop N Y i) := by
  unfold bb_drop mm_drop mm_drop0
  refine rc.dropL hN ?_ i _ (Nat.le_refl _)
  have a1 : rt2 N (db_up X 2 i 0 0) (db_up Y 17 0 i 0) := h.1.up (f := 0) (by decide) rfl rfl
  refine ⟨a1.fr (fun _ _ _ => up_f (by omega)) (fun r j _ _ => (up_k (by omega)).trans (up_k (by omega))), fun k hk => ?_, fun j hj => ?_, fun k hk => ?_, fun j hj => ?_⟩
  · rw [up_k (by decide), up_k (by decide), up_k (by decide), up_k (by decide), up_k (by decide)]; exact h.2.1 k hk
  · rw [up_k (by decide)]
    by_cases q : j = i
    · subst q; rw [up_at]; exact Or.inl rfl
    · rw [up_f q, up_k (by decide)]; exact h.2.2.1 j hj
  · rw [up_k (by decide), up_k (by decide), up_k (by decide)]; exact h.2.2.2.1 k hk
  · by_cases q : j = i
    · subst q
      have e : db_up (db_up (db_up Y 17 0 j 0) 21 0 j (-1)) 22 0 j 0 17 0 j = 0 := by simp [db_up]
      rw [e]
      exact ⟨fun z => absurd rfl z, fun _ => up_at, fun z => absurd rfl z⟩
    · obtain ⟨a, b, c⟩ := h.2.2.2.2 j hj
      simp only [db_up, q, false_and, and_false, if_false]
      exact ⟨a, b, c⟩
