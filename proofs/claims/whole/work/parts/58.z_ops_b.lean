/-! taking a task out -/
def rr_RM (kb : Nat → Bool) (u v : Nat) (κ : Nat → Nat) : Prop := v = db_cn kb u ∧ (∀ p, p < v → κ p < u ∧ kb (κ p) = true) ∧ (∀ p q, p < q → q < v → κ p < κ q) ∧ ∀ p, p < u → kb p = true → ∃ p', p' < v ∧ κ p' = p
theorem rr_RM.zero {kb : Nat → Bool} {κ : Nat → Nat} : rr_RM kb 0 0 κ := ⟨rfl, fun p hp => absurd hp (by omega), fun p q _ hq => absurd hq (by omega), fun p hp => absurd hp (by omega)⟩
theorem rr_RM.skip {kb : Nat → Bool} {κ : Nat → Nat} {u v : Nat} (h : rr_RM kb u v κ) (hk : kb u = false) : rr_RM kb (u + 1) v κ := by
  refine ⟨?_, fun p hp => ⟨by have := (h.2.1 p hp).1; omega, (h.2.1 p hp).2⟩, h.2.2.1, fun p hp hb => ?_⟩
  · rw [db_cn, hk, if_neg (by decide)]; exact h.1
  · by_cases q : p = u
    · subst q; rw [hk] at hb; cases hb
    · exact h.2.2.2 p (by omega) hb
theorem rr_RM.take {kb : Nat → Bool} {κ : Nat → Nat} {u v : Nat} (h : rr_RM kb u v κ) (hk : kb u = true) : rr_RM kb (u + 1) (v + 1) (fun p => if p = v then u else κ p) := by
  refine ⟨?_, fun p hp => ?_, fun p q h1 h2 => ?_, fun p hp hb => ?_⟩
  · rw [db_cn, hk, if_pos rfl, ← h.1]
  · show (if p = v then u else κ p) < u + 1 ∧ kb (if p = v then u else κ p) = true
    split
    · exact ⟨by omega, hk⟩
    · have := h.2.1 p (by omega)
      exact ⟨by omega, this.2⟩
  · show (if p = v then u else κ p) < (if q = v then u else κ q)
    rw [if_neg (by omega : ¬ p = v)]
    split
    · exact (h.2.1 p (by omega)).1
    · exact h.2.2.1 p q h1 (by omega)
  · by_cases q : p = u
    · exact ⟨v, by omega, by show (if v = v then u else κ v) = p; rw [if_pos rfl]; exact q.symm⟩
    · obtain ⟨p', h1, h2⟩ := h.2.2.2 p (by omega) hb
      exact ⟨p', by omega, by show (if p' = v then u else κ p') = p; rw [if_neg (by omega)]; exact h2⟩
theorem rr_RM.le {kb : Nat → Bool} {κ : Nat → Nat} {u v : Nat} (h : rr_RM kb u v κ) : v ≤ u := by rw [h.1]; exact db_cn_le _
theorem bb_rmF_spec {X0 : db_X} {t : Int32} : ∀ (q u v : Nat) (X : db_X) (κ : Nat → Nat), rr_RM (fun p => decide (¬ bb_sec X0 p 0 = t)) u v κ → (∀ k i f, ¬ k = 5 → X k i f = X0 k i f) → (∀ p, p < v → X 5 0 p = X0 5 0 (κ p)) → (∀ p, u ≤ p → X 5 0 p = X0 5 0 p) → (∀ p, ∃ p0, X 5 0 p = X0 5 0 p0) →
    ∃ κ', rr_RM (fun p => decide (¬ bb_sec X0 p 0 = t)) (u + q) (bb_rmF t q u v X).1 κ' ∧ (∀ k i f, ¬ k = 5 → (bb_rmF t q u v X).2 k i f = X0 k i f) ∧ (∀ p, p < (bb_rmF t q u v X).1 → (bb_rmF t q u v X).2 5 0 p = X0 5 0 (κ' p)) ∧ (∀ p, ∃ p0, (bb_rmF t q u v X).2 5 0 p = X0 5 0 p0)
  | 0, u, v, X, κ, h, h1, h2, _, h4 => ⟨κ, h, h1, h2, h4⟩
  | q + 1, u, v, X, κ, h, h1, h2, h3, h4 => by
    have es : bb_sec X u 0 = bb_sec X0 u 0 := by
      unfold bb_sec
      rw [h3 u (Nat.le_refl _), h1 12 _ 0 (by decide)]
    have hle := h.le
    unfold bb_rmF
    rw [es, show u + (q + 1) = u + 1 + q by omega]
    by_cases z : bb_sec X0 u 0 = t
    · rw [if_pos z]
      exact bb_rmF_spec q (u + 1) v X κ (h.skip (by simp [z])) h1 h2 (fun p hp => h3 p (by omega)) h4
    · rw [if_neg z]
      refine bb_rmF_spec q (u + 1) (v + 1) _ _ (h.take (by simp [z])) (fun k i f hk => by rw [up_k hk]; exact h1 k i f hk) (fun p hp => ?_) (fun p hp => by rw [up_f (by omega)]; exact h3 p (by omega)) (fun p => ?_)
      · show _ = X0 5 0 (if p = v then u else κ p)
        by_cases w : p = v
        · rw [if_pos w, w, up_at]; exact h3 u (Nat.le_refl _)
        · rw [if_neg w, up_f w]; exact h2 p (by omega)
      · by_cases w : p = v
        · rw [w, up_at]; exact h4 u
        · rw [up_f w]; exact h4 p
theorem mm_cp_o {Y : db_X} {v u k i f : Nat} (h : ¬ (25 ≤ k ∧ k ≤ 28)) : mm_cp Y v u k i f = Y k i f := by
  unfold mm_cp mm_cp4 mm_cp3 mm_cp2 mm_cp1
  rw [up_k (by omega), up_k (by omega), up_k (by omega), up_k (by omega)]
theorem mm_cp_a {Y : db_X} {v u r p : Nat} (h1 : 25 ≤ r) (h2 : r ≤ 28) : mm_cp Y v u r 0 p = if p = v then Y r 0 u else Y r 0 p := by
  have hs : r = 25 ∨ r = 26 ∨ r = 27 ∨ r = 28 := by omega
  rcases hs with rfl | rfl | rfl | rfl <;> by_cases z : p = v <;> simp [mm_cp, mm_cp4, mm_cp3, mm_cp2, mm_cp1, db_up, z]
theorem mm_rmF_spec {Y0 : db_X} {t : Int32} : ∀ (q u v : Nat) (Y : db_X) (κ : Nat → Nat), rr_RM (fun s => decide (¬ Y0 25 0 s = t)) u v κ → (∀ k i f, ¬ (25 ≤ k ∧ k ≤ 28) → Y k i f = Y0 k i f) → (∀ r p, 25 ≤ r → r ≤ 28 → p < v → Y r 0 p = Y0 r 0 (κ p)) → (∀ r p, 25 ≤ r → r ≤ 28 → u ≤ p → Y r 0 p = Y0 r 0 p) →
    ∃ κ', rr_RM (fun s => decide (¬ Y0 25 0 s = t)) (u + q) (mm_rmF t q u v Y).1 κ' ∧ (∀ k i f, ¬ (25 ≤ k ∧ k ≤ 28) → (mm_rmF t q u v Y).2 k i f = Y0 k i f) ∧ (∀ r p, 25 ≤ r → r ≤ 28 → p < (mm_rmF t q u v Y).1 → (mm_rmF t q u v Y).2 r 0 p = Y0 r 0 (κ' p))
  | 0, u, v, Y, κ, h, h1, h2, _ => ⟨κ, h, h1, h2⟩
  | q + 1, u, v, Y, κ, h, h1, h2, h3 => by
    have es : Y 25 0 u = Y0 25 0 u := h3 25 u (by decide) (by decide) (Nat.le_refl _)
    have hle := h.le
    unfold mm_rmF
    rw [es, show u + (q + 1) = u + 1 + q by omega]
    by_cases z : Y0 25 0 u = t
    · rw [if_pos z]
      exact mm_rmF_spec q (u + 1) v Y κ (h.skip (by simp [z])) h1 h2 (fun r p a b hp => h3 r p a b (by omega))
    · rw [if_neg z]
      refine mm_rmF_spec q (u + 1) (v + 1) _ _ (h.take (by simp [z])) (fun k i f hk => by rw [mm_cp_o hk]; exact h1 k i f hk) (fun r p a b hp => ?_) (fun r p a b hp => by rw [mm_cp_a a b, if_neg (by omega)]; exact h3 r p a b (by omega))
      show _ = Y0 r 0 (if p = v then u else κ p)
      rw [mm_cp_a a b]
      by_cases w : p = v
      · rw [if_pos w, if_pos w]; exact h3 r u a b (Nat.le_refl _)
      · rw [if_neg w, if_neg w]; exact h2 r p a b (by omega)
/-- the order of what is left -/
theorem rr_P.rm {X Y X' Y' : db_X} {sz n : Nat} {π κ κ' : Nat → Nat} {t : Int32} (h : rr_P X Y sz π) (hx : rr_RM (fun p => decide (¬ bb_sec X p 0 = t)) sz n κ) (hy : rr_RM (fun s => decide (¬ Y 25 0 s = t)) sz n κ') (ex : ∀ p f, p < n → bb_sec X' p f = bb_sec X (κ p) f) (ey : ∀ r p, 25 ≤ r → r ≤ 28 → p < n → Y' r 0 p = Y r 0 (κ' p)) : ∃ π', rr_P X' Y' n π' := by
  have hex : ∀ p, ∃ s, p < n → (s < n ∧ κ' s = π (κ p)) := by
    intro p
    by_cases z : p < n
    · obtain ⟨h1, h2⟩ := hx.2.1 p z
      have h2 : ¬ bb_sec X (κ p) 0 = t := of_decide_eq_true h2
      rw [(h.2.2.1 _ h1).1] at h2
      obtain ⟨s, h3, h4⟩ := hy.2.2.2 (π (κ p)) (h.1 _ h1) (by simp [h2])
      exact ⟨s, fun _ => ⟨h3, h4⟩⟩
    · exact ⟨0, fun w => absurd w z⟩
  obtain ⟨π', hπ⟩ := Classical.axiomOfChoice hex
  have mono : ∀ a b, a < n → b < n → κ' a < κ' b → a < b := by
    intro a b ha hb hlt
    by_cases z : a < b
    · exact z
    · by_cases w : a = b
      · subst w; omega
      · have := hy.2.2.1 b a (by omega) ha
        omega
  refine ⟨π', fun p hp => (hπ p hp).1, fun p q hp hq e => ?_, fun p hp => ?_, fun p q hpq hq => ?_⟩
  · have h1 := (hπ p hp).2
    have h2 := (hπ q hq).2
    rw [e] at h1
    have h3 := h.2.1 _ _ (hx.2.1 p hp).1 (hx.2.1 q hq).1 (h1.symm.trans h2)
    by_cases z : p < q
    · have := hx.2.2.1 p q z hq; omega
    · by_cases w : q < p
      · have := hx.2.2.1 q p w hp; omega
      · omega
  · obtain ⟨h1, h2⟩ := hπ p hp
    rw [ex p 0 hp, ex p 1 hp, ex p 2 hp, ex p 3 hp, ex p 4 hp, ey 25 _ (by decide) (by decide) h1, ey 26 _ (by decide) (by decide) h1, ey 27 _ (by decide) (by decide) h1, ey 28 _ (by decide) (by decide) h1, h2]
    exact h.2.2.1 _ (hx.2.1 p hp).1
  · have hp : p < n := by omega
    obtain ⟨h1, h2⟩ := hπ p hp
    obtain ⟨h3, h4⟩ := hπ q hq
    have h5 := h.2.2.2 (κ p) (κ q) (hx.2.2.1 p q hpq hq) (hx.2.1 q hq).1
    unfold rr_lt at h5 ⊢
    rw [ey 27 _ (by decide) (by decide) h1, ey 27 _ (by decide) (by decide) h3, ey 28 _ (by decide) (by decide) h1, ey 28 _ (by decide) (by decide) h3, h2, h4]
    rcases h5 with w | ⟨w1, w2 | ⟨w2, w3⟩⟩
    · exact Or.inl w
    · exact Or.inr ⟨w1, Or.inl w2⟩
    · exact Or.inr ⟨w1, Or.inr ⟨w2, mono _ _ h1 h3 (by rw [h2, h4]; exact w3)⟩⟩
/-- the job goes first -/
theorem rm_drop {N : Nat → Nat} {X Y : db_X} {sz cnt th tm la i : Nat} (hN : bb_N N) (h : rr N X Y sz cnt th tm la) (hi : i < N 0) : rc N (bb_drop N (db_up X 1 i 1 0) i) (mm_rm1 N Y i) ∧ rr_L N (mm_rm1 N Y i) sz ∧ mm_rm1 N Y i 17 0 i = 0 ∧ (∀ r s, ¬ (r = 29 ∨ r = 23 ∨ r = 21 ∨ r = 17 ∨ r = 22) → mm_rm1 N Y i r 0 s = Y r 0 s) ∧ (∀ j, ¬ mm_rm1 N Y i 17 0 j = 0 → ¬ Y 17 0 j = 0) ∧ mm_I N sz (mm_rm1 N Y i) := by
  have hn := hN.2.1
  have hc1 : rc N (db_up X 1 i 1 0) Y := h.rc.fr (fun j f _ => up_k (by decide)) (fun k => up_k (by decide)) (fun _ _ _ => rfl)
  unfold mm_rm1
  by_cases q : Y 17 0 i = 0
  · rw [if_pos q]
    refine ⟨?_, h.l, q, fun _ _ _ => rfl, fun _ => id, h.mI⟩
    have hno : ∀ k, k < N 1 → ¬ db_up (db_up (db_up X 1 i 1 0) 2 i 0 0) 2 i 4 (-1) 3 0 k = nI i := by
      intro k hk e
      rw [up_k (by decide), up_k (by decide), up_k (by decide), h.hh k hk] at e
      exact (h.l.2.2.1 k i hk hi e).1 q
    have hid : ∀ k, k ≤ N 1 → bb_dropL N (db_up (db_up (db_up X 1 i 1 0) 2 i 0 0) 2 i 4 (-1)) i k = db_up (db_up (db_up X 1 i 1 0) 2 i 0 0) 2 i 4 (-1) := by
      intro k hk
      induction k with
      | zero => rfl
      | succ k ih =>
        unfold bb_dropL
        rw [ih (by omega), if_neg (hno k (by omega))]
    unfold bb_drop
    rw [hid (N 1) (Nat.le_refl _)]
    refine hc1.fr (fun j f hf => ?_) (fun k => by rw [up_k (by decide), up_k (by decide)]) (fun _ _ _ => rfl)
    by_cases z : j = i
    · subst z
      by_cases z4 : f = 4
      · subst z4
        rw [up_at, up_k (by decide)]
        exact ((h.j j hi).2.1 q).symm
      · rw [up_f z4]
        by_cases z0 : f = 0
        · subst z0
          rw [up_at, up_k (by decide), h.t.t2 0 (by decide) j hi]
          exact q.symm
        · rw [up_f z0]
    · rw [up_i z, up_i z]
  · rw [if_neg q]
    refine ⟨hc1.drop hN i, h.l.drop hN hi, ?_, fun r s hr => mm_drop_fr r 0 s (by simp [mm_SG]; omega), fun j z => ?_, h.mI.drop⟩
    · rw [mm_drop_17, if_pos rfl]
    · rw [mm_drop_17] at z
      by_cases w : j = i
      · rw [if_pos w] at z; exact absurd rfl z
      · rw [if_neg w] at z; exact z
theorem s_remove {N : Nat → Nat} {X Y : db_X} {sz cnt th tm la : Nat} (hN : bb_N N) (h : rr N X Y sz cnt th tm la) (hcn : cnt < 2 ^ 31) (t : Int32) : (bb_remove N X sz t).1 = (mm_remove N Y sz t).1 ∧ ∃ sz', rr N (bb_remove N X sz t).2 (mm_remove N Y sz t).2 sz' cnt th tm la := by
  have hn : N 0 < 2 ^ 31 := by have := hN.2.1; omega
  have hn1 := hN.2.2.1
  unfold bb_remove mm_remove
  rw [rr_isLive hn h.t]
  by_cases q : mm_isLive N Y t = 0
  · rw [if_pos q, if_pos q]; exact ⟨rfl, sz, h⟩
  · rw [if_neg q, if_neg q]
    obtain ⟨i, hi, rfl⟩ := mm_isLive_ix hn q
    refine ⟨rfl, ?_⟩
    rw [db_nIc hi hn]
    obtain ⟨rca, La, pa, ya, pma, mIa⟩ := rm_drop hN h hi
    have fxa : bb_fr bb_SG (bb_drop N (db_up X 1 i 1 0) i) (db_up X 1 i 1 0) := bb_drop_fr
    have bIa : bb_I N cnt sz (bb_drop N (db_up X 1 i 1 0) i) := (h.bI.up rfl).drop
    have sxa : ∀ p f, bb_sec (bb_drop N (db_up X 1 i 1 0) i) p f = bb_sec X p f := fun p f => (bb_sec_fr fxa (fun _ => rfl) (fun _ => rfl) p f).trans (bb_sec_up (by decide) (by decide) p f)
    have x5a : ∀ p, bb_drop N (db_up X 1 i 1 0) i 5 0 p = X 5 0 p := fun p => (fxa 5 0 p rfl).trans (up_k (by decide))
    have t1a : rt1 N (bb_drop N (db_up X 1 i 1 0) i) (db_up (mm_rm1 N Y i) 6 0 i 0) := by
      have a : rt1 N (db_up X 1 i 1 0) (db_up Y 6 0 i 0) := h.t.t1.up rfl rfl
      refine a.fr (fun j f => fxa 1 j f rfl) (fun r j h1 h2 => ?_)
      by_cases z : r = 6 ∧ j = i
      · rw [z.1, z.2, up_at, up_at]
      · rw [up_o (fun w => z ⟨w.1, w.2.2⟩), up_o (fun w => z ⟨w.1, w.2.2⟩)]
        exact ya r j (by omega)
    have rcb : rc N (bb_drop N (db_up X 1 i 1 0) i) (db_up (mm_rm1 N Y i) 6 0 i 0) := by
      refine ⟨rca.1.fr (fun _ _ _ => rfl) (fun r j _ _ => up_k (by omega)), rca.2.1.fr (fun _ => rfl) (fun k => up_k (by decide)), fun j hj => by rw [up_k (by decide)]; exact rca.2.2.1 j hj, fun k hk => by rw [up_k (by decide)]; exact rca.2.2.2.1 k hk, fun j hj => ?_⟩
      obtain ⟨a, b, c⟩ := rca.2.2.2.2 j hj
      rw [up_k (k' := 17) (by decide), up_k (k' := 21) (by decide), up_k (k' := 22) (by decide)]
      by_cases z : j = i
      · subst z
        exact ⟨fun y => absurd pa y, b, fun y => absurd pa y⟩
      · rw [up_f z]; exact ⟨a, b, c⟩
    have Lb : rr_L N (db_up (mm_rm1 N Y i) 6 0 i 0) sz := La.fr (fun r j hr => up_k (by omega))
    have mIb : mm_I N sz (db_up (mm_rm1 N Y i) 6 0 i 0) := mIa.up rfl
    have y6 : ∀ r s, (r = 8 ∨ (25 ≤ r ∧ r ≤ 28)) → db_up (mm_rm1 N Y i) 6 0 i 0 r 0 s = Y r 0 s := fun r s hr => (up_k (by omega)).trans (ya r s (by omega))
    have y6o : ∀ j, ¬ j = i → db_up (mm_rm1 N Y i) 6 0 i 0 6 0 j = Y 6 0 j := fun j z => (up_f z).trans (ya 6 j (by omega))
    have yb : ∀ r s, ¬ (r = 29 ∨ r = 23 ∨ r = 21 ∨ r = 17 ∨ r = 22 ∨ r = 6) → db_up (mm_rm1 N Y i) 6 0 i 0 r 0 s = Y r 0 s := fun r s hr => (up_k (by omega)).trans (ya r s (by omega))
    have yb17 : db_up (mm_rm1 N Y i) 6 0 i 0 17 0 i = 0 := (up_k (by decide)).trans pa
    have pmb : ∀ j, ¬ db_up (mm_rm1 N Y i) 6 0 i 0 17 0 j = 0 → ¬ Y 17 0 j = 0 := fun j z => pma j (by rw [up_k (by decide)] at z; exact z)
    have xa0 : ∀ k f, (k = 0 ∨ 5 ≤ k) → bb_drop N (db_up X 1 i 1 0) i k 0 f = X k 0 f := fun k f hk => (fxa k 0 f (by simp [bb_SG]; omega)).trans (up_k (by omega))
    generalize bb_drop N (db_up X 1 i 1 0) i = Xa at *
    generalize db_up (mm_rm1 N Y i) 6 0 i 0 = Yb at *
    obtain ⟨⟨π, hP0⟩, hS1, hS2⟩ := h.s
    have hP : rr_P Xa Yb sz π := hP0.fr sxa (fun r s _ _ => y6 r s (by omega))
    obtain ⟨κ, k1, k2, k3, k4⟩ := bb_rmF_spec (X0 := Xa) (t := nI i) sz 0 0 Xa (fun _ => 0) rr_RM.zero (fun _ _ _ _ => rfl) (fun p hp => absurd hp (by omega)) (fun _ _ => rfl) (fun p => ⟨p, rfl⟩)
    obtain ⟨κ', m1, m2, m3⟩ := mm_rmF_spec (Y0 := Yb) (t := nI i) sz 0 0 Yb (fun _ => 0) rr_RM.zero (fun _ _ _ _ => rfl) (fun r p _ _ hp => absurd hp (by omega)) (fun _ _ _ _ _ => rfl)
    rw [Nat.zero_add] at k1 m1
    have hsz : (bb_rmF (nI i) sz 0 0 Xa).1 = (mm_rmF (nI i) sz 0 0 Yb).1 := by
      rw [k1.1, m1.1, ← db_cn_perm (f := fun s => decide (¬ Yb 25 0 s = nI i)) sz π hP.1 hP.2.1]
      refine db_cn_congr _ (fun p hp => ?_)
      show decide (¬ bb_sec Xa p 0 = nI i) = decide (¬ Yb 25 0 (π p) = nI i)
      rw [(hP.2.2.1 p hp).1]
    unfold bb_rmA mm_rmA
    rw [← hsz] at m1 m3 ⊢
    generalize (bb_rmF (nI i) sz 0 0 Xa).1 = n at *
    generalize (bb_rmF (nI i) sz 0 0 Xa).2 = Xc at *
    generalize (mm_rmF (nI i) sz 0 0 Yb).2 = Yc at *
    refine ⟨n, ?_⟩
    have hnle : n ≤ sz := k1.le
    have hszN : sz ≤ N 2 := h.mI.2.2.2.1
    have xd : ∀ k i f, ¬ k = 5 → ¬ k = 4 → db_up Xc 4 0 1 (nI n) k i f = Xa k i f := fun k i f h5 h4 => (up_k h4).trans (k2 k i f h5)
    have xd5 : ∀ p, p < n → db_up Xc 4 0 1 (nI n) 5 0 p = Xa 5 0 (κ p) := fun p hp => (up_k (by decide)).trans (k3 p hp)
    have xsec : ∀ p f, p < n → bb_sec (db_up Xc 4 0 1 (nI n)) p f = bb_sec Xa (κ p) f := by
      intro p f hp
      unfold bb_sec
      rw [xd5 p hp, xd 12 _ f (by decide) (by decide)]
    have yd : ∀ k s, ¬ (25 ≤ k ∧ k ≤ 28) → ¬ k = 0 → db_up Yc 0 0 24 (nI n) k 0 s = Yb k 0 s := fun k s h5 h4 => (up_k h4).trans (m2 k 0 s h5)
    have yds : ∀ r p, 25 ≤ r → r ≤ 28 → p < n → db_up Yc 0 0 24 (nI n) r 0 p = Yb r 0 (κ' p) := fun r p a b hp => (up_k (by omega)).trans (m3 r p a b hp)
    have yd0 : ∀ f, ¬ f = 24 → db_up Yc 0 0 24 (nI n) 0 0 f = Yb 0 0 f := fun f hf => (up_f hf).trans (m2 0 0 f (by omega))
    have rcd : rc N (db_up Xc 4 0 1 (nI n)) (db_up Yc 0 0 24 (nI n)) := rcb.fr (fun j f _ => xd 2 j f (by decide) (by decide)) (fun k => xd 3 0 k (by decide) (by decide)) (fun r j hr => yd r j (by omega) (by omega))
    have t1d : rt1 N (db_up Xc 4 0 1 (nI n)) (db_up Yc 0 0 24 (nI n)) := t1a.fr (fun j f => xd 1 j f (by decide) (by decide)) (fun r j h1 h2 => yd r j (by omega) (by omega))
    have hinn : ∀ {j s u}, s < n → (rr_in (db_up Yc 0 0 24 (nI n)) j s u ↔ rr_in Yb j (κ' s) u) := by
      intro j s u hs
      unfold rr_in
      rw [yds 25 s (by decide) (by decide) hs, yds 27 s (by decide) (by decide) hs, yds 28 s (by decide) (by decide) hs]
    have find : ∀ j s, ¬ j = i → j < N 0 → s < sz → Yb 25 0 s = nI j → ∃ s', s' < n ∧ κ' s' = s := by
      intro j s hj hj2 hs e
      refine m1.2.2.2 s hs ?_
      show decide (¬ Yb 25 0 s = nI i) = true
      rw [e]
      simp only [decide_eq_true_eq]
      intro z
      exact hj ((nI_eq (by omega) (by omega)).mp z)
    have hN1 : ∀ s, s < n → rr_N1 N (db_up Yc 0 0 24 (nI n)) s := by
      intro s hs
      obtain ⟨g0, g00⟩ := m1.2.1 s hs
      have g00 : ¬ Yb 25 0 (κ' s) = nI i := of_decide_eq_true g00
      obtain ⟨t, k, b, g, g1, g2, g3, g4, g5, g6, g7, g8, g9, g10⟩ := hS1 (κ' s) g0
      have z : ¬ t = i := fun z => g00 (by rw [y6 25 _ (by omega), g5, z])
      refine ⟨t, k, b, g, g1, g2, g3, g4, ?_, ?_, ?_, ?_, ?_, ?_⟩
      · rw [yds 25 s (by decide) (by decide) hs, y6 25 _ (by omega)]; exact g5
      · rw [yds 26 s (by decide) (by decide) hs, y6 26 _ (by omega)]; exact g6
      · rw [yds 27 s (by decide) (by decide) hs, y6 27 _ (by omega)]; exact g7
      · rw [yds 28 s (by decide) (by decide) hs, y6 28 _ (by omega)]; exact g8
      · rw [yd 6 t (by omega) (by omega), y6o t z]; exact g9
      · rw [yd 8 t (by omega) (by omega), y6 8 t (by omega)]; exact g10
    have hS : rr_S N (db_up Xc 4 0 1 (nI n)) (db_up Yc 0 0 24 (nI n)) n := by
      refine ⟨hP.rm k1 m1 (fun p f hp => xsec p f hp) yds, hN1, fun s s' a b c d => ?_⟩
      unfold rr_ov at d
      rw [yds 25 s (by decide) (by decide) a, yds 25 s' (by decide) (by decide) b, yds 27 s (by decide) (by decide) a, yds 27 s' (by decide) (by decide) b, yds 28 s (by decide) (by decide) a, yds 28 s' (by decide) (by decide) b, y6 25 _ (by omega), y6 25 _ (by omega), y6 27 _ (by omega), y6 27 _ (by omega), y6 28 _ (by omega), y6 28 _ (by omega)] at d
      rw [yds 26 s (by decide) (by decide) a, yds 26 s' (by decide) (by decide) b, y6 26 _ (by omega), y6 26 _ (by omega)]
      refine hS2 (κ' s) (κ' s') (m1.2.1 s a).1 (m1.2.1 s' b).1 (fun e => ?_) d
      by_cases z : s < s'
      · have := m1.2.2.1 s s' z b; omega
      · have := m1.2.2.1 s' s (by omega) a; omega
    have hL : rr_L N (db_up Yc 0 0 24 (nI n)) n := by
      obtain ⟨l1, l2, l3, l4⟩ := Lb
      refine ⟨fun j hj => ?_, fun j s hj hs => ?_, fun k j hk hj => ?_, fun j k hj hk => ?_⟩
      · rw [yd 17 j (by omega) (by omega), yd 20 j (by omega) (by omega), yd 8 j (by omega) (by omega)]; exact l1 j hj
      · rw [yd 17 j (by omega) (by omega), yd 20 j (by omega) (by omega), yds 27 s (by decide) (by decide) hs, yds 26 s (by decide) (by decide) hs, yd 23 _ (by omega) (by omega), hinn hs]
        exact l2 j (κ' s) hj (m1.2.1 s hs).1
      · rw [yd 17 j (by omega) (by omega), yd 20 j (by omega) (by omega), yd 23 _ (by omega) (by omega)]
        intro e
        obtain ⟨a, s, b, c, d⟩ := l3 k j hk hj e
        have z : ¬ j = i := fun z => a (by rw [z]; exact yb17)
        obtain ⟨s', c1, rfl⟩ := find j s z hj b c.1
        exact ⟨a, s', c1, (hinn c1).mpr c, by rw [yds 26 s' (by decide) (by decide) c1]; exact d⟩
      · rw [yd 17 j (by omega) (by omega), yd 20 j (by omega) (by omega), yd 21 _ (by omega) (by omega)]
        intro hpp e
        obtain ⟨s, b, c, d⟩ := l4 j k hj hk hpp e
        have z : ¬ j = i := fun z => hpp (by rw [z]; exact yb17)
        obtain ⟨s', c1, rfl⟩ := find j s z hj b c.1
        exact ⟨s', c1, (hinn c1).mpr c, by rw [yds 26 s' (by decide) (by decide) c1]; exact d⟩
    have hVf : mm_V N (db_up Yc 0 0 24 (nI n)) := by
      intro j hj
      rw [yd 6 j (by omega) (by omega), yd 7 j (by omega) (by omega), yd 8 j (by omega) (by omega), yd 9 j (by omega) (by omega), yb 7 j (by omega), yb 8 j (by omega), yb 9 j (by omega)]
      by_cases z : j = i
      · subst z
        intro w
        have := t1a 1 (by decide) (by decide) j hi
        exfalso
        have e1 : Xa 1 j 1 = 0 := by
          rw [fxa 1 j 1 rfl, up_at]
        exact w (this.symm.trans e1)
      · rw [y6o j z]; exact h.mV j hj
    have hD : rr_D N (db_up Yc 0 0 24 (nI n)) th := by
      intro j hj
      rw [yd 6 j (by omega) (by omega), yd 17 j (by omega) (by omega), yd 10 j (by omega) (by omega), yd 19 j (by omega) (by omega), yb 10 j (by omega), yb 19 j (by omega)]
      obtain ⟨d1, d2⟩ := h.d j hj
      refine ⟨fun z => ?_, fun z => d2 (pmb j z)⟩
      by_cases w : j = i
      · subst w
        have := t1a 1 (by decide) (by decide) j hi
        have e1 : Xa 1 j 1 = 0 := by
          rw [fxa 1 j 1 rfl, up_at]
        exact absurd (this.symm.trans e1) z
      · rw [y6o j w] at z; exact d1 z
    have hbI : bb_I N cnt n (db_up Xc 4 0 1 (nI n)) := by
      refine ⟨rcd.W, rcd.O hN, up_at, by omega, fun p hp => ?_⟩
      rw [xd5 p hp, xsec p 2 hp]
      exact bIa.2.2.2.2 (κ p) (k1.2.1 p hp).1
    have hmI : mm_I N n (db_up Yc 0 0 24 (nI n)) := by
      refine ⟨rcd.2.2.1, rcd.2.2.2.1, up_at, by omega, fun s hs => ?_⟩
      rw [yds 26 s (by decide) (by decide) hs]
      exact mIb.2.2.2.2 (κ' s) (m1.2.1 s hs).1
    show rr N (db_up Xc 4 0 1 (nI n)) (db_up Yc 0 0 24 (nI n)) n cnt th tm la
    have X0 : ∀ k f, (k = 0 ∨ 6 ≤ k) → ¬ k = 12 → db_up Xc 4 0 1 (nI n) k 0 f = X k 0 f := fun k f hk _ => (xd k 0 f (by omega) (by omega)).trans (xa0 k f (by omega))
    refine ⟨rr_T_of t1d rcd.1, rcd.2.1, ⟨?_, ?_, ?_, ?_, ?_, fun j => ?_, fun j => ?_, fun j => ?_⟩, hbI, hmI, fun p => ?_, ?_, ?_, ?_, bb_V_of t1d hVf, rcd.2.2.2.2, hS, hL, hD⟩
    · rw [X0 0 5 (by omega) (by omega), yd0 4 (by omega), yb 0 4 (by omega)]; exact h.z.1
    · rw [X0 0 6 (by omega) (by omega), yd0 5 (by omega), yb 0 5 (by omega)]; exact h.z.2.1
    · rw [X0 0 7 (by omega) (by omega), yd0 35 (by omega), yb 0 35 (by omega)]; exact h.z.2.2.1
    · rw [X0 6 2 (by omega) (by omega), yd0 30 (by omega), yb 0 30 (by omega)]; exact h.z.2.2.2.1
    · rw [X0 9 1 (by omega) (by omega), yd0 34 (by omega), yb 0 34 (by omega)]; exact h.z.2.2.2.2.1
    · rw [X0 7 j (by omega) (by omega), yd 31 j (by omega) (by omega), yb 31 j (by omega)]; exact h.z.2.2.2.2.2.1 j
    · rw [X0 8 j (by omega) (by omega), yd 32 j (by omega) (by omega), yb 32 j (by omega)]; exact h.z.2.2.2.2.2.2.1 j
    · rw [X0 10 j (by omega) (by omega), yd 33 j (by omega) (by omega), yb 33 j (by omega)]; exact h.z.2.2.2.2.2.2.2 j
    · obtain ⟨p0, e⟩ := k4 p
      rw [up_k (by decide), e, x5a]
      exact h.rw p0
    · rw [X0 0 5 (by omega) (by omega)]; exact h.la
    · rw [X0 0 6 (by omega) (by omega), X0 9 1 (by omega) (by omega)]; exact h.th
    · rw [X0 6 2 (by omega) (by omega)]; exact h.tm
