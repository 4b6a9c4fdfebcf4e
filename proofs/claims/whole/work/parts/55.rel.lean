/-! how the class's numbers and the reference's belong together -/
def rr_k (r : Nat) : Nat := if r ≤ 16 then 1 else 2
def rr_f (r : Nat) : Nat := if r ≤ 16 then r - 5 else r - 17
def rr_T (N : Nat → Nat) (X Y : db_X) : Prop := ∀ r, 6 ≤ r → r ≤ 20 → ∀ i, i < N 0 → X (rr_k r) i (rr_f r) = Y r 0 i
def rr_H (N : Nat → Nat) (X Y : db_X) : Prop := ∀ k, k < N 1 → X 3 0 k = Y 23 0 k
def rr_Z (X Y : db_X) : Prop := X 0 0 5 = Y 0 0 4 ∧ X 0 0 6 = Y 0 0 5 ∧ X 0 0 7 = Y 0 0 35 ∧ X 6 0 2 = Y 0 0 30 ∧ X 9 0 1 = Y 0 0 34 ∧ (∀ j, X 7 0 j = Y 31 0 j) ∧ (∀ j, X 8 0 j = Y 32 0 j) ∧ ∀ j, X 10 0 j = Y 33 0 j
/-- jobs: who is pending is of a live task, and waits and ran before alike; who is not waits for nothing -/
def rr_J (N : Nat → Nat) (X Y : db_X) : Prop := ∀ i, i < N 0 → (¬ Y 17 0 i = 0 → ¬ Y 6 0 i = 0) ∧ (Y 17 0 i = 0 → X 2 i 4 = -1) ∧ (¬ Y 17 0 i = 0 → X 2 i 6 = Y 22 0 i ∧ X 2 i 4 = Y 21 0 i ∧ (Y 21 0 i = -1 ∨ db_in (Y 21 0 i) (N 1)))
/-- section a goes before section b -/
def rr_lt (Y : db_X) (a b : Nat) : Prop := Y 27 0 a < Y 27 0 b ∨ (Y 27 0 a = Y 27 0 b ∧ (Y 28 0 b < Y 28 0 a ∨ (Y 28 0 a = Y 28 0 b ∧ a < b)))
def rr_P (X Y : db_X) (sz : Nat) (π : Nat → Nat) : Prop := (∀ p, p < sz → π p < sz) ∧ (∀ p q, p < sz → q < sz → π p = π q → p = q) ∧ (∀ p, p < sz → bb_sec X p 0 = Y 25 0 (π p) ∧ bb_sec X p 1 = Y 27 0 (π p) ∧ bb_sec X p 2 = Y 26 0 (π p) ∧ bb_sec X p 3 = Y 28 0 (π p) ∧ bb_sec X p 4 = Y 27 0 (π p) + Y 28 0 (π p)) ∧ ∀ p q, p < q → q < sz → rr_lt Y (π p) (π q)
/-- a section's own numbers -/
def rr_N1 (N : Nat → Nat) (Y : db_X) (s : Nat) : Prop := ∃ t k b g : Nat, t < N 0 ∧ k < N 1 ∧ 1 ≤ g ∧ b + g ≤ 20000 ∧ Y 25 0 s = nI t ∧ Y 26 0 s = nI k ∧ Y 27 0 s = nI b ∧ Y 28 0 s = nI g ∧ ¬ Y 6 0 t = 0 ∧ b + g ≤ (Y 8 0 t).toNatClampNeg
def rr_ov (Y : db_X) (s s' : Nat) : Prop := Y 25 0 s = Y 25 0 s' ∧ (Y 27 0 s).toNatClampNeg < (Y 27 0 s').toNatClampNeg + (Y 28 0 s').toNatClampNeg ∧ (Y 27 0 s').toNatClampNeg < (Y 27 0 s).toNatClampNeg + (Y 28 0 s).toNatClampNeg
/-- sections: the class has them in order; two that overlap are of two locks -/
def rr_S (N : Nat → Nat) (X Y : db_X) (sz : Nat) : Prop := (∃ π, rr_P X Y sz π) ∧ (∀ s, s < sz → rr_N1 N Y s) ∧ ∀ s s', s < sz → s' < sz → s ≠ s' → rr_ov Y s s' → ¬ Y 26 0 s = Y 26 0 s'
/-- section s of task i is open at unit u -/
def rr_in (Y : db_X) (i s u : Nat) : Prop := Y 25 0 s = nI i ∧ (Y 27 0 s).toNatClampNeg ≤ u ∧ u < (Y 27 0 s).toNatClampNeg + (Y 28 0 s).toNatClampNeg
/-- locks and who holds them -/
def rr_L (N : Nat → Nat) (Y : db_X) (sz : Nat) : Prop :=
  (∀ i, i < N 0 → ¬ Y 17 0 i = 0 → ∃ u : Nat, Y 20 0 i = nI u ∧ u < (Y 8 0 i).toNatClampNeg) ∧
  (∀ i s, i < N 0 → s < sz → ¬ Y 17 0 i = 0 → rr_in Y i s (Y 20 0 i).toNatClampNeg → (Y 27 0 s).toNatClampNeg < (Y 20 0 i).toNatClampNeg → Y 23 0 (Y 26 0 s).toNatClampNeg = nI i) ∧
  (∀ k i, k < N 1 → i < N 0 → Y 23 0 k = nI i → ¬ Y 17 0 i = 0 ∧ ∃ s, s < sz ∧ rr_in Y i s (Y 20 0 i).toNatClampNeg ∧ Y 26 0 s = nI k) ∧
  (∀ i k, i < N 0 → k < N 1 → ¬ Y 17 0 i = 0 → Y 21 0 i = nI k → ∃ s, s < sz ∧ rr_in Y i s (Y 20 0 i).toNatClampNeg ∧ Y 26 0 s = nI k)
/-- when the next job comes, and when the pending one is due -/
def rr_D (N : Nat → Nat) (Y : db_X) (th : Nat) : Prop := ∀ i, i < N 0 → (¬ Y 6 0 i = 0 → ∃ x : Nat, Y 10 0 i = nI x ∧ th ≤ x ∧ x ≤ th + 20000) ∧ (¬ Y 17 0 i = 0 → ∃ d x : Nat, Y 19 0 i = nI d ∧ Y 10 0 i = nI x ∧ th ≤ d ∧ d ≤ x ∧ x ≤ th + 20000)
def rr (N : Nat → Nat) (X Y : db_X) (sz cnt th tm la : Nat) : Prop :=
  rr_T N X Y ∧ rr_H N X Y ∧ rr_Z X Y ∧ bb_I N cnt sz X ∧ mm_I N sz Y ∧ bb_Rw cnt X ∧ (X 0 0 5 = nI la ∧ 1 ≤ la ∧ la ≤ 20000) ∧ (X 0 0 6 = nI th ∧ X 9 0 1 = nI th ∧ th ≤ la) ∧ (X 6 0 2 = nI tm ∧ tm ≤ 40 * th) ∧ bb_V N X ∧ rr_J N X Y ∧ rr_S N X Y sz ∧ rr_L N Y sz ∧ rr_D N Y th
theorem rr.t {N : Nat → Nat} {X Y : db_X} {sz cnt th tm la : Nat} (h : rr N X Y sz cnt th tm la) : rr_T N X Y := h.1
theorem rr.hh {N : Nat → Nat} {X Y : db_X} {sz cnt th tm la : Nat} (h : rr N X Y sz cnt th tm la) : rr_H N X Y := h.2.1
theorem rr.z {N : Nat → Nat} {X Y : db_X} {sz cnt th tm la : Nat} (h : rr N X Y sz cnt th tm la) : rr_Z X Y := h.2.2.1
theorem rr.bI {N : Nat → Nat} {X Y : db_X} {sz cnt th tm la : Nat} (h : rr N X Y sz cnt th tm la) : bb_I N cnt sz X := h.2.2.2.1
theorem rr.mI {N : Nat → Nat} {X Y : db_X} {sz cnt th tm la : Nat} (h : rr N X Y sz cnt th tm la) : mm_I N sz Y := h.2.2.2.2.1
theorem rr.rw {N : Nat → Nat} {X Y : db_X} {sz cnt th tm la : Nat} (h : rr N X Y sz cnt th tm la) : bb_Rw cnt X := h.2.2.2.2.2.1
theorem rr.la {N : Nat → Nat} {X Y : db_X} {sz cnt th tm la : Nat} (h : rr N X Y sz cnt th tm la) : X 0 0 5 = nI la ∧ 1 ≤ la ∧ la ≤ 20000 := h.2.2.2.2.2.2.1
theorem rr.th {N : Nat → Nat} {X Y : db_X} {sz cnt th tm la : Nat} (h : rr N X Y sz cnt th tm la) : X 0 0 6 = nI th ∧ X 9 0 1 = nI th ∧ th ≤ la := h.2.2.2.2.2.2.2.1
theorem rr.tm {N : Nat → Nat} {X Y : db_X} {sz cnt th tm la : Nat} (h : rr N X Y sz cnt th tm la) : X 6 0 2 = nI tm ∧ tm ≤ 40 * th := h.2.2.2.2.2.2.2.2.1
theorem rr.v {N : Nat → Nat} {X Y : db_X} {sz cnt th tm la : Nat} (h : rr N X Y sz cnt th tm la) : bb_V N X := h.2.2.2.2.2.2.2.2.2.1
theorem rr.j {N : Nat → Nat} {X Y : db_X} {sz cnt th tm la : Nat} (h : rr N X Y sz cnt th tm la) : rr_J N X Y := h.2.2.2.2.2.2.2.2.2.2.1
theorem rr.s {N : Nat → Nat} {X Y : db_X} {sz cnt th tm la : Nat} (h : rr N X Y sz cnt th tm la) : rr_S N X Y sz := h.2.2.2.2.2.2.2.2.2.2.2.1
theorem rr.l {N : Nat → Nat} {X Y : db_X} {sz cnt th tm la : Nat} (h : rr N X Y sz cnt th tm la) : rr_L N Y sz := h.2.2.2.2.2.2.2.2.2.2.2.2.1
theorem rr.d {N : Nat → Nat} {X Y : db_X} {sz cnt th tm la : Nat} (h : rr N X Y sz cnt th tm la) : rr_D N Y th := h.2.2.2.2.2.2.2.2.2.2.2.2.2
theorem rr.yth {N : Nat → Nat} {X Y : db_X} {sz cnt th tm la : Nat} (h : rr N X Y sz cnt th tm la) : Y 0 0 34 = nI th := by rw [← h.z.2.2.2.2.1]; exact h.th.2.1
theorem rr.ytm {N : Nat → Nat} {X Y : db_X} {sz cnt th tm la : Nat} (h : rr N X Y sz cnt th tm la) : Y 0 0 30 = nI tm := by rw [← h.z.2.2.2.1]; exact h.tm.1
theorem rr.yla {N : Nat → Nat} {X Y : db_X} {sz cnt th tm la : Nat} (h : rr N X Y sz cnt th tm la) : Y 0 0 4 = nI la := by rw [← h.z.1]; exact h.la.1
theorem rr.tmb {N : Nat → Nat} {X Y : db_X} {sz cnt th tm la : Nat} (h : rr N X Y sz cnt th tm la) : tm + 90000 < 2 ^ 31 := by have h1 := h.tm.2; have h2 := h.th.2.2; have h3 := h.la.2.2; omega
theorem rr.thb {N : Nat → Nat} {X Y : db_X} {sz cnt th tm la : Nat} (h : rr N X Y sz cnt th tm la) : th + 3000 < 2 ^ 31 := by have h2 := h.th.2.2; have h3 := h.la.2.2; omega
theorem rr.tk1 {N : Nat → Nat} {X Y : db_X} (h : rr_T N X Y) (f i : Nat) (h1 : 1 ≤ f) (h2 : f ≤ 11) (hi : i < N 0) : X 1 i f = Y (f + 5) 0 i := by
  have := h (f + 5) (by omega) (by omega) i hi
  unfold rr_k rr_f at this
  rw [if_pos (by omega), if_pos (by omega)] at this
  exact this
theorem rr.tk2 {N : Nat → Nat} {X Y : db_X} (h : rr_T N X Y) (f i : Nat) (h2 : f ≤ 3) (hi : i < N 0) : X 2 i f = Y (f + 17) 0 i := by
  have := h (f + 17) (by omega) (by omega) i hi
  unfold rr_k rr_f at this
  rw [if_neg (by omega), if_neg (by omega)] at this
  exact this
theorem rr.mV {N : Nat → Nat} {X Y : db_X} {sz cnt th tm la : Nat} (h : rr N X Y sz cnt th tm la) : mm_V N Y := by
  intro i hi
  have e1 := rr.tk1 h.t 1 i (by decide) (by decide) hi
  have e2 := rr.tk1 h.t 2 i (by decide) (by decide) hi
  have e3 := rr.tk1 h.t 3 i (by decide) (by decide) hi
  have e4 := rr.tk1 h.t 4 i (by decide) (by decide) hi
  have := h.v i hi
  rw [e1, e2, e3, e4] at this
  exact this
/-! the plain answers -/
theorem rr_isLive {N : Nat → Nat} {X Y : db_X} (hn : N 0 < 2 ^ 31) (h : rr_T N X Y) (t : Int32) : bb_isLive N X t = mm_isLive N Y t := by
  unfold bb_isLive mm_isLive
  by_cases q1 : t < 0
  · rw [if_pos q1, if_pos q1]
  · by_cases q2 : nI (N 0) ≤ t
    · rw [if_neg q1, if_neg q1, if_pos q2, if_pos q2]
    · obtain ⟨j, hj, rfl⟩ := db_ix hn q1 q2
      rw [db_nIc hj hn, rr.tk1 h 1 j (by decide) (by decide) hj]
theorem rr_isP {N : Nat → Nat} {X Y : db_X} (hn : N 0 < 2 ^ 31) (h : rr_T N X Y) (t : Int32) : bb_hasJob N X t = mm_isP N Y t := by
  unfold bb_hasJob mm_isP
  rw [rr_isLive hn h]
  by_cases q : mm_isLive N Y t = 0
  · rw [if_pos q, if_pos q]
  · obtain ⟨j, hj, rfl⟩ := mm_isLive_ix hn q
    rw [db_nIc hj hn, rr.tk2 h 0 j (by decide) hj]
theorem rr_isPn {N : Nat → Nat} {X Y : db_X} (hn : N 0 < 2 ^ 31) (h : rr_J N X Y) {j : Nat} (hj : j < N 0) : mm_isP N Y (nI j) = 0 ↔ Y 17 0 j = 0 := by
  rw [mm_isP_n hn hj]
  constructor
  · intro z
    by_cases q : Y 17 0 j = 0
    · exact q
    · rw [if_neg ((h j hj).1 q), if_neg q] at z
      exact absurd z (by decide)
  · intro z
    rw [z]
    simp
theorem db_cnt_congr {f g : Nat → Bool} : ∀ n, (∀ i, i < n → f i = g i) → db_cnt f n = db_cnt g n
  | 0, _ => rfl
  | n + 1, h => by rw [db_cnt, db_cnt, db_cnt_congr n (fun i hi => h i (by omega)), h n (by omega)]
theorem s_remaining {N : Nat → Nat} {X Y : db_X} {sz cnt th tm la : Nat} (hN : bb_N N) (h : rr N X Y sz cnt th tm la) (t : Int32) : bb_remaining N X t = mm_remaining N Y t := by
  have hn : N 0 < 2 ^ 31 := by have := hN.2.1; omega
  unfold bb_remaining mm_remaining
  rw [rr_isP hn h.t]
  by_cases q : mm_isP N Y t = 0
  · rw [if_pos q, if_pos q]
  · obtain ⟨j, hj, rfl⟩ := mm_isP_ix hn q
    rw [db_nIc hj hn, rr.tk1 h.t 3 j (by decide) (by decide) hj, rr.tk2 h.t 3 j (by decide) hj]
theorem s_deadlineOf {N : Nat → Nat} {X Y : db_X} {sz cnt th tm la : Nat} (hN : bb_N N) (h : rr N X Y sz cnt th tm la) (t : Int32) : bb_deadlineOf N X t = mm_deadlineOf N Y t := by
  have hn : N 0 < 2 ^ 31 := by have := hN.2.1; omega
  unfold bb_deadlineOf mm_deadlineOf
  rw [rr_isP hn h.t]
  by_cases q : mm_isP N Y t = 0
  · rw [if_pos q, if_pos q]
  · obtain ⟨j, hj, rfl⟩ := mm_isP_ix hn q
    rw [db_nIc hj hn, rr.tk2 h.t 2 j (by decide) hj]
theorem s_waitsFor {N : Nat → Nat} {X Y : db_X} {sz cnt th tm la : Nat} (hN : bb_N N) (h : rr N X Y sz cnt th tm la) (t : Int32) : bb_waitsFor N X t = mm_waitsFor N Y t := by
  have hn : N 0 < 2 ^ 31 := by have := hN.2.1; omega
  unfold bb_waitsFor mm_waitsFor
  rw [rr_isP hn h.t]
  by_cases q : mm_isP N Y t = 0
  · rw [if_pos q, if_pos q]
  · obtain ⟨j, hj, rfl⟩ := mm_isP_ix hn q
    rw [if_neg q, if_neg q, db_nIc hj hn]
    exact ((h.j j hj).2.2 (fun z => q ((rr_isPn hn h.j hj).mpr z))).2.1
theorem s_owner {N : Nat → Nat} {X Y : db_X} {sz cnt th tm la : Nat} (hN : bb_N N) (h : rr N X Y sz cnt th tm la) (t : Int32) : bb_owner N X t = mm_owner N Y t := by
  have hn : N 1 < 2 ^ 31 := by have := hN.2.2.1; omega
  unfold bb_owner mm_owner
  by_cases q : bb_isLock N t = 0
  · rw [if_pos q, if_pos q]
  · obtain ⟨j, hj, rfl⟩ := bb_isLock_ix hn q
    rw [db_nIc hj hn, h.hh j hj]
theorem s_waiters {N : Nat → Nat} {X Y : db_X} {sz cnt th tm la : Nat} (hN : bb_N N) (h : rr N X Y sz cnt th tm la) (t : Int32) : bb_waiters N X t = mm_waiters N Y t := by
  have hn : N 0 < 2 ^ 31 := by have := hN.2.1; omega
  unfold bb_waiters mm_waiters
  rw [db_cnt_congr (N 0) (fun j hj => ?_)]
  rw [rr.tk2 h.t 0 j (by decide) hj]
  simp only [rr_isPn hn h.j hj]
  by_cases z : Y 17 0 j = 0
  · simp [z]
  · rw [((h.j j hj).2.2 z).2.1]
theorem s_missCount {N : Nat → Nat} {X Y : db_X} {sz cnt th tm la : Nat} (h : rr N X Y sz cnt th tm la) : X 6 0 2 = Y 0 0 30 := h.z.2.2.2.1
theorem s_ran {N : Nat → Nat} {X Y : db_X} {sz cnt th tm la : Nat} (h : rr N X Y sz cnt th tm la) (k : Int32) : bb_back X th k = mm_ran Y th k := by
  unfold bb_back mm_ran
  rw [h.z.2.2.2.2.1, h.z.2.2.2.2.2.2.2]
  by_cases q1 : k < 0
  · rw [if_pos q1, if_pos q1]
  · by_cases q2 : 100 ≤ k
    · rw [if_neg q1, if_neg q1, if_pos q2, if_pos q2]
    · rw [if_neg q1, if_neg q1, if_neg q2, if_neg q2]
      by_cases q3 : k < Y 0 0 34
      · rw [if_pos q3, if_neg (Int32.not_le.mpr q3)]
      · rw [if_neg q3, if_pos (Int32.not_lt.mp q3)]
theorem s_miss {N : Nat → Nat} {X Y : db_X} {sz cnt th tm la : Nat} (h : rr N X Y sz cnt th tm la) (i w : Int32) : bb_miss N X i w = mm_missQ N Y i w := by
  unfold bb_miss mm_missQ bb_keeps
  rw [h.z.2.2.2.1, h.z.2.2.2.2.2.1, h.z.2.2.2.2.2.2.1]
  by_cases q1 : i < 0
  · simp [q1]
  · by_cases q2 : nI (N 3) ≤ i
    · by_cases q3 : Y 0 0 30 ≤ i <;> simp [q1, q2, q3]
    · by_cases q3 : Y 0 0 30 ≤ i
      · simp [q1, q2, q3, Int32.not_lt.mpr q3]
      · simp [q1, q2, q3, Int32.not_le.mp q3]
