def mm_m2b (Y : db_X) : db_X := db_up Y 32 0 (Y 0 0 30).toNatClampNeg (Y 0 0 5)
def mm_m2 (Y : db_X) (i : Nat) : db_X := mm_m2b (db_up Y 31 0 (Y 0 0 30).toNatClampNeg (nI i))
def mm_m3 (Y : db_X) : db_X := db_up Y 0 0 30 (Y 0 0 30 + 1)
def mm_mlog (N : Nat → Nat) (Y : db_X) (i : Nat) : db_X := if nI (N 3) ≤ Y 0 0 30 then mm_m3 Y else mm_m3 (mm_m2 Y i)
def mm_m1 (Y : db_X) (i : Nat) : db_X := db_up Y 13 0 i (Y 13 0 i + 1)
noncomputable def mm_ms1 (N : Nat → Nat) (r : Int32 × db_X) (i : Nat) : Int32 × db_X := if mm_isP N r.2 (nI i) = 0 then r else if r.2 19 0 i = r.2 0 0 5 then (1, mm_drop N (mm_mlog N (mm_m1 r.2 i) i) i) else r
noncomputable def mm_miss (N : Nat → Nat) (Y : db_X) : Nat → Int32 × db_X
  | 0 => (0, Y)
  | i + 1 => mm_ms1 N (mm_miss N Y i) i
def mm_r1 (Y : db_X) (i : Nat) : db_X := db_up Y 17 0 i 1
def mm_r2 (Y : db_X) (i : Nat) : db_X := db_up Y 18 0 i (Y 0 0 5)
def mm_r3 (Y : db_X) (i : Nat) : db_X := db_up Y 19 0 i (Y 0 0 5 + Y 9 0 i)
def mm_r4 (Y : db_X) (i : Nat) : db_X := db_up (db_up (db_up Y 20 0 i 0) 21 0 i (-1)) 22 0 i 0
def mm_r5 (Y : db_X) (i : Nat) : db_X := db_up Y 11 0 i (Y 11 0 i + 1)
def mm_r6 (Y : db_X) (i : Nat) : db_X := db_up Y 10 0 i (Y 10 0 i + Y 7 0 i)
def mm_rl (Y : db_X) (i : Nat) : db_X := mm_r6 (mm_r5 (mm_r4 (mm_r3 (mm_r2 (mm_r1 Y i) i) i) i) i) i
def mm_rls1 (Y : db_X) (i : Nat) : db_X := if Y 6 0 i = 0 then Y else if Y 10 0 i = Y 0 0 5 then mm_rl Y i else Y
def mm_rls (Y : db_X) : Nat → db_X
  | 0 => Y
  | i + 1 => mm_rls1 (mm_rls Y i) i
/-- the last of those that none behind it is better than -/
def db_bs (sel : Nat → Bool) (wor : Nat → Nat → Bool) : Nat → Int32
  | 0 => -1
  | n + 1 => if sel n = true then (if db_bs sel wor n = -1 then nI n else if wor n (db_bs sel wor n).toNatClampNeg = true then db_bs sel wor n else nI n) else db_bs sel wor n
theorem db_bs_in {sel : Nat → Bool} {wor : Nat → Nat → Bool} : ∀ n : Nat, db_bs sel wor n = -1 ∨ ∃ j : Nat, j < n ∧ db_bs sel wor n = nI j ∧ sel j = true
  | 0 => Or.inl rfl
  | n + 1 => by
    have h := db_bs_in (sel := sel) (wor := wor) n
    have up : (db_bs sel wor n = -1 ∨ ∃ j : Nat, j < n ∧ db_bs sel wor n = nI j ∧ sel j = true) → (db_bs sel wor n = -1 ∨ ∃ j : Nat, j < n + 1 ∧ db_bs sel wor n = nI j ∧ sel j = true) := by
      rintro (h | ⟨j, h1, h2⟩)
      · exact Or.inl h
      · exact Or.inr ⟨j, by omega, h2⟩
    unfold db_bs
    split
    · rename_i hs
      split
      · exact Or.inr ⟨n, by omega, rfl, hs⟩
      · split
        · exact up h
        · exact Or.inr ⟨n, by omega, rfl, hs⟩
    · exact up h
def mm_wsel (Y : db_X) (i s : Nat) : Bool := decide (Y 25 0 s = nI i ∧ Y 27 0 s = Y 20 0 i ∧ ¬ Y 23 0 (Y 26 0 s).toNatClampNeg = nI i)
def mm_wwor (Y : db_X) (s b : Nat) : Bool := decide (Y 28 0 s ≤ Y 28 0 b)
def mm_want (Y : db_X) (sz i : Nat) : Int32 := db_bs (mm_wsel Y i) (mm_wwor Y) sz
def mm_esel (Y : db_X) (i s : Nat) : Bool := decide (Y 25 0 s = nI i ∧ Y 27 0 s + Y 28 0 s = Y 20 0 i ∧ Y 23 0 (Y 26 0 s).toNatClampNeg = nI i)
def mm_ewor (Y : db_X) (s b : Nat) : Bool := decide (Y 27 0 s < Y 27 0 b)
def mm_end (Y : db_X) (sz i : Nat) : Int32 := db_bs (mm_esel Y i) (mm_ewor Y) sz
theorem mm_want_in {Y : db_X} {sz i : Nat} (h : ¬ mm_want Y sz i = -1) : ∃ j : Nat, j < sz ∧ mm_want Y sz i = nI j ∧ mm_wsel Y i j = true := (db_bs_in sz).resolve_left h
theorem mm_end_in {Y : db_X} {sz i : Nat} (h : ¬ mm_end Y sz i = -1) : ∃ j : Nat, j < sz ∧ mm_end Y sz i = nI j ∧ mm_esel Y i j = true := (db_bs_in sz).resolve_left h
noncomputable def mm_tkF (N : Nat → Nat) (sz : Nat) : Nat → Int32 → db_X → Int32 × db_X
  | 0, _, Y => (-1, Y)
  | q + 1, t, Y => if t = -1 then (-1, Y) else if mm_want Y sz t.toNatClampNeg = -1 then (t, Y) else
    if Y 23 0 (Y 26 0 (mm_want Y sz t.toNatClampNeg).toNatClampNeg).toNatClampNeg = -1 then mm_tkF N sz q t (db_up Y 23 0 (Y 26 0 (mm_want Y sz t.toNatClampNeg).toNatClampNeg).toNatClampNeg t)
    else mm_tkF N sz q (mm_ahead N (mm_rk N (db_up Y 21 0 t.toNatClampNeg (Y 26 0 (mm_want Y sz t.toNatClampNeg).toNatClampNeg))) (-1)) (mm_rk N (db_up Y 21 0 t.toNatClampNeg (Y 26 0 (mm_want Y sz t.toNatClampNeg).toNatClampNeg)))
noncomputable def mm_tk (N : Nat → Nat) (Y : db_X) (sz : Nat) : Int32 × db_X := mm_tkF N sz 60 (mm_ahead N (mm_rk N Y) (-1)) (mm_rk N Y)
noncomputable def mm_wkF (N : Nat → Nat) (sz i : Nat) : Nat → db_X → db_X
  | 0, Y => Y
  | q + 1, Y => if mm_end Y sz i = -1 then Y else mm_wkF N sz i q (mm_lg N Y (Y 26 0 (mm_end Y sz i).toNatClampNeg).toNatClampNeg)
def mm_w3 (Y : db_X) (i : Nat) : db_X := db_up Y 17 0 i 0
def mm_w4 (Y : db_X) (i : Nat) : db_X := db_up Y 12 0 i (Y 12 0 i + 1)
def mm_w5 (Y : db_X) (i : Nat) : db_X := if Y 0 0 5 + 1 - Y 18 0 i ≤ Y 16 0 i then Y else db_up Y 16 0 i (Y 0 0 5 + 1 - Y 18 0 i)
def mm_wk2 (Y : db_X) (i : Nat) : db_X := if Y 8 0 i ≤ Y 20 0 i then mm_w5 (mm_w4 (mm_w3 Y i) i) i else Y
def mm_w1 (Y : db_X) (i : Nat) : db_X := db_up Y 20 0 i (Y 20 0 i + 1)
noncomputable def mm_wk (N : Nat → Nat) (Y : db_X) (sz i : Nat) : db_X := mm_wk2 (mm_wkF N sz i 20 (mm_w1 Y i)) i
def mm_c1 (b : Int32) (Y : db_X) (i : Nat) : db_X := if ¬ b = 0 ∧ ¬ Y 21 0 i = -1 then db_up Y 14 0 i (Y 14 0 i + 1) else Y
def mm_c2 (b r : Int32) (Y : db_X) (i : Nat) : db_X := if ¬ b = 0 ∧ ¬ Y 22 0 i = 0 ∧ Y 21 0 i = -1 ∧ ¬ r = -1 ∧ ¬ r = nI i then db_up Y 15 0 i (Y 15 0 i + 1) else Y
def mm_c3 (b r : Int32) (Y : db_X) (i : Nat) : db_X := db_up Y 22 0 i (if ¬ b = 0 ∧ r = nI i then 1 else 0)
def mm_ct1 (N : Nat → Nat) (r : Int32) (Y : db_X) (i : Nat) : db_X := mm_c3 (mm_isP N Y (nI i)) r (mm_c2 (mm_isP N Y (nI i)) r (mm_c1 (mm_isP N Y (nI i)) Y i) i) i
def mm_ct (N : Nat → Nat) (r : Int32) (Y : db_X) : Nat → db_X
  | 0 => Y
  | i + 1 => mm_ct1 N r (mm_ct N r Y i) i
/-! counting, for what comes to an end -/
def db_cn (f : Nat → Bool) : Nat → Nat
  | 0 => 0
  | n + 1 => db_cn f n + (if f n = true then 1 else 0)
theorem db_cn_le {f : Nat → Bool} : ∀ n, db_cn f n ≤ n
  | 0 => Nat.le_refl _
  | n + 1 => by
    have h := db_cn_le (f := f) n
    unfold db_cn
    split <;> omega
theorem db_cn_congr {f g : Nat → Bool} : ∀ n, (∀ i, i < n → f i = g i) → db_cn f n = db_cn g n
  | 0, _ => rfl
  | n + 1, h => by rw [db_cn, db_cn, db_cn_congr n (fun i hi => h i (by omega)), h n (by omega)]
theorem db_cn_lt {f g : Nat → Bool} {k : Nat} (hf : f k = false) (hg : g k = true) : ∀ n, k < n → (∀ i, i < n → i ≠ k → f i = g i) → db_cn f n + 1 = db_cn g n
  | 0, h, _ => absurd h (by omega)
  | n + 1, h, e => by
    rw [db_cn, db_cn]
    by_cases q : k = n
    · subst q
      rw [db_cn_congr k (fun i hi => e i (by omega) (by omega)), hf, hg]
      simp
    · have h1 := db_cn_lt hf hg n (by omega) (fun i hi => e i (by omega))
      rw [e n (by omega) (fun z => q z.symm)]
      omega
def mm_rdy (N : Nat → Nat) (Y : db_X) (j : Nat) : Bool := decide (¬ mm_isP N Y (nI j) = 0 ∧ Y 21 0 j = -1)
def mm_fre (Y : db_X) (k : Nat) : Bool := decide (Y 23 0 k = -1)
def mm_mea (N : Nat → Nat) (Y : db_X) : Nat := db_cn (mm_rdy N Y) (N 0) + db_cn (mm_fre Y) (N 1)
theorem mm_s.mea {N : Nat → Nat} {X Y : db_X} (h : mm_s N X Y) : mm_mea N X = mm_mea N Y := by
  unfold mm_mea
  rw [db_cn_congr (g := mm_rdy N Y) (N 0) (fun i _ => by unfold mm_rdy; rw [h.isP, h 21 0 i (by simp)]), db_cn_congr (g := mm_fre Y) (N 1) (fun i _ => by unfold mm_fre; rw [h 23 0 i (by simp)])]
theorem mm_isP_up {N : Nat → Nat} {Y : db_X} {k i f : Nat} {v t : Int32} (h : ¬ k = 6 ∧ ¬ k = 17) : mm_isP N (db_up Y k i f v) t = mm_isP N Y t := by
  have e : ∀ k' i' f', (k' = 6 ∨ k' = 17) → db_up Y k i f v k' i' f' = Y k' i' f' := by
    intro k' i' f' q
    simp only [db_up]
    rw [if_neg]
    rintro ⟨rfl, -⟩
    rcases q with q | q
    · exact h.1 q
    · exact h.2 q
  unfold mm_isP mm_isLive
  rw [e 6 0 _ (by simp), e 17 0 _ (by simp)]
theorem mm_mea23 {N : Nat → Nat} {Y : db_X} {k i : Nat} (hi : i < 2 ^ 31) (hk : k < N 1) (h : Y 23 0 k = -1) : mm_mea N (db_up Y 23 0 k (nI i)) + 1 = mm_mea N Y := by
  unfold mm_mea
  have h1 : db_cn (mm_rdy N (db_up Y 23 0 k (nI i))) (N 0) = db_cn (mm_rdy N Y) (N 0) := db_cn_congr _ (fun j _ => by unfold mm_rdy; rw [mm_isP_up (by decide)]; simp [db_up])
  have h2 : db_cn (mm_fre (db_up Y 23 0 k (nI i))) (N 1) + 1 = db_cn (mm_fre Y) (N 1) := by
    refine db_cn_lt (k := k) ?_ ?_ _ hk ?_
    · simp [mm_fre, db_up, nI_ne1 hi]
    · simp [mm_fre, h]
    · intro j _ q
      simp [mm_fre, db_up, q]
  omega
theorem mm_mea21 {N : Nat → Nat} {Y : db_X} {i : Nat} {v : Int32} (hi : i < N 0) (hp : ¬ mm_isP N Y (nI i) = 0) (hw : Y 21 0 i = -1) (hv : ¬ v = -1) : mm_mea N (db_up Y 21 0 i v) + 1 = mm_mea N Y := by
  unfold mm_mea
  have h1 : db_cn (mm_fre (db_up Y 21 0 i v)) (N 1) = db_cn (mm_fre Y) (N 1) := db_cn_congr _ (fun j _ => by simp [mm_fre, db_up])
  have h2 : db_cn (mm_rdy N (db_up Y 21 0 i v)) (N 0) + 1 = db_cn (mm_rdy N Y) (N 0) := by
    refine db_cn_lt (k := i) ?_ ?_ _ hi ?_
    · unfold mm_rdy
      rw [mm_isP_up (by decide)]
      simp [db_up, hv]
    · simp [mm_rdy, hp, hw]
    · intro j _ q
      unfold mm_rdy
      rw [mm_isP_up (by decide)]
      simp [db_up, q]
  omega
theorem mm_ahead_ready {N : Nat → Nat} {Y : db_X} {a : Int32} (hn : N 0 < 2 ^ 31) (h : ¬ mm_ahead N Y a = -1) : ¬ mm_isP N Y (nI (mm_ahead N Y a).toNatClampNeg) = 0 ∧ Y 21 0 (mm_ahead N Y a).toNatClampNeg = a := by
  rcases db_ah_in (sel := fun j => decide (¬ mm_isP N Y (nI j) = 0 ∧ Y 21 0 j = a)) (ef := fun j => Y 29 0 j) (N 0) with q | ⟨j, q1, q2, q3⟩
  · exact absurd q h
  · have q4 : mm_ahead N Y a = nI j := q2
    rw [q4, db_nIc q1 hn]
    simpa using q3
def mm_hld (Y : db_X) (i k : Nat) : Bool := decide (Y 23 0 k = nI i)
/-- i waits for nothing: letting go of a lock that it holds leaves it one less -/
theorem mm_lg_hld {N : Nat → Nat} {Y : db_X} {i k : Nat} (hN : bb_N N) (hi : i < N 0) (hk : k < N 1) (hw : Y 21 0 i = -1) (hh : Y 23 0 k = nI i) : db_cn (mm_hld (mm_lg N Y k) i) (N 1) + 1 = db_cn (mm_hld Y i) (N 1) ∧ mm_lg N Y k 21 0 i = -1 := by
  have hn0 : N 0 < 2 ^ 31 := by have := hN.2.1; omega
  have hn1 : N 1 < 2 ^ 31 := by have := hN.2.2.1; omega
  have e1 : ∀ j, mm_rk N (db_up Y 23 0 k (-1)) 23 0 j = if j = k then -1 else Y 23 0 j := by
    intro j
    rw [mm_rk_s 23 0 j (by simp)]
    by_cases q : j = k <;> simp [db_up, q]
  have e2 : mm_rk N (db_up Y 23 0 k (-1)) 21 0 i = -1 := by
    rw [mm_rk_s 21 0 i (by simp)]
    simp [db_up, hw]
  unfold mm_lg mm_lg2
  split
  · refine ⟨db_cn_lt (k := k) ?_ ?_ _ hk ?_, e2⟩
    · unfold mm_hld
      rw [e1, if_pos rfl]
      simpa using fun q => nI_ne1 (by omega) q.symm
    · simp [mm_hld, hh]
    · intro j _ q
      unfold mm_hld
      rw [e1, if_neg q]
  · rename_i q9
    have hr := mm_ahead_ready hn0 q9
    have hin := mm_ahead_in q9
    generalize mm_ahead N (mm_rk N (db_up Y 23 0 k (-1))) (nI k) = a at *
    have hne : ¬ a.toNatClampNeg = i := by
      intro z
      rw [z, e2] at hr
      exact nI_ne1 (by omega) hr.2.symm
    refine ⟨db_cn_lt (k := k) ?_ ?_ _ hk ?_, ?_⟩
    · unfold mm_hld mm_lg3
      simp only [db_up]
      simp
      intro z
      rw [z, nI_clamp (by omega)] at hne
      exact hne rfl
    · simp [mm_hld, hh]
    · intro j _ q
      unfold mm_hld mm_lg3
      have : db_up (db_up (mm_rk N (db_up Y 23 0 k (-1))) 23 0 k a) 21 0 a.toNatClampNeg (-1) 23 0 j = Y 23 0 j := by
        simp [db_up, q]
        have := e1 j
        rw [if_neg q] at this
        exact this
      rw [this]
    · unfold mm_lg3
      have : db_up (db_up (mm_rk N (db_up Y 23 0 k (-1))) 23 0 k a) 21 0 a.toNatClampNeg (-1) 21 0 i = mm_rk N (db_up Y 23 0 k (-1)) 21 0 i := by
        simp [db_up, Ne.symm hne]
      rw [this, e2]
