/-! a section is made -/
def bb_L (L : Nat → Nat → Nat) (cnt q : Nat) : Nat → Nat → Nat := fun k i => if k = 12 ∧ i = cnt then q else L k i
theorem bb_L_n {L : Nat → Nat → Nat} {cnt q : Nat} : bb_L L cnt q 12 cnt = q := if_pos ⟨rfl, rfl⟩
theorem bb_L_o {L : Nat → Nat → Nat} {cnt q k i : Nat} (h : ¬ k = 12) : bb_L L cnt q k i = L k i := if_neg (fun z => h z.1)
theorem bb_L_s {L : Nat → Nat → Nat} {cnt q i : Nat} (h : ¬ i = cnt) : bb_L L cnt q 12 i = L 12 i := if_neg (fun z => h z.2)
def bb_newS (X : db_X) (cnt : Nat) (t b k g : Int32) : db_X := db_up (db_up (db_up (db_up (db_up X 12 cnt 0 t) 12 cnt 1 b) 12 cnt 2 k) 12 cnt 3 g) 12 cnt 4 (b + g)
def bb_Rw (cnt : Nat) (X : db_X) : Prop := ∀ p, X 5 0 p = -1 ∨ db_in (X 5 0 p) cnt
theorem bb_newS_o {X : db_X} {cnt : Nat} {t b k g : Int32} {k' i' : Nat} (h : ¬ (k' = 12 ∧ i' = cnt)) : bb_newS X cnt t b k g k' i' = X k' i' := by
  funext f
  simp only [bb_newS, db_up]
  have e : ∀ f0 : Nat, ¬ (k' = 12 ∧ i' = cnt ∧ f = f0) := fun f0 z => h ⟨z.1, z.2.1⟩
  rw [if_neg (e 4), if_neg (e 3), if_neg (e 2), if_neg (e 1), if_neg (e 0)]
theorem bb_cel_L {Γ : db_G} {N : Nat → Nat} {L : Nat → Nat → Nat} {cnt q k i : Nat} {X : db_X} (hcn : cnt < 2 ^ 31) (hRw : bb_Rw cnt X) (hk : k ≤ 11) (h5 : k = 5 → i = 0) : bb_cel Γ N (bb_L L cnt q) k i (X k i) = bb_cel Γ N L k i (X k i) := by
  by_cases q5 : k = 5
  · subst q5
    rw [h5 rfl]
    simp only [bb_cel]
    congr 7
    funext p
    by_cases z : X 5 0 p < 0
    · rw [if_pos z, if_pos z]
    · rw [if_neg z, if_neg z]
      rcases hRw p with w | w
      · rw [w] at z; exact absurd (by decide) z
      · rw [bb_L_s (fun e => by have := w.lt hcn; omega)]
  · have hs : k = 0 ∨ k = 1 ∨ k = 2 ∨ k = 3 ∨ k = 4 ∨ k = 6 ∨ k = 7 ∨ k = 8 ∨ k = 9 ∨ k = 10 ∨ k = 11 := by omega
    rcases hs with rfl | rfl | rfl | rfl | rfl | rfl | rfl | rfl | rfl | rfl | rfl <;> simp only [bb_cel] <;> simp [bb_L]
theorem bb_newR {Γ : db_G} {N : Nat → Nat} {L : Nat → Nat → Nat} {cnt q : Nat} {X : db_X} {h h' : db_Mem} {t b k g : Int32} (hcn : cnt < 2 ^ 31) (hRw : bb_Rw cnt X) (hR : db_R L (bb_ok (N 0) cnt) (bb_cel Γ N L) X h) (hq : h q = none) (hs : h' q = some (.inr (3, [.int t, .int b, .int k, .int g, .int (b + g)]))) (ho : ∀ x, x ≠ q → h' x = h x) :
    db_R (bb_L L cnt q) (bb_ok (N 0) (cnt + 1)) (bb_cel Γ N (bb_L L cnt q)) (bb_newS X cnt t b k g) h' := by
  have okd : ∀ k' i', bb_ok (N 0) (cnt + 1) k' i' → (k' = 12 ∧ i' = cnt) ∨ (¬ (k' = 12 ∧ i' = cnt) ∧ bb_ok (N 0) cnt k' i') := by
    intro k' i' hok
    by_cases z : k' = 12 ∧ i' = cnt
    · exact Or.inl z
    · refine Or.inr ⟨z, ?_⟩
      unfold bb_ok at hok ⊢
      rcases hok with h1 | h1 | h1
      · exact Or.inl h1
      · exact Or.inr (Or.inl ⟨h1.1, by have := h1.2; omega⟩)
      · exact Or.inr (Or.inr h1)
  have Lo : ∀ k' i', ¬ (k' = 12 ∧ i' = cnt) → bb_L L cnt q k' i' = L k' i' := fun k' i' z => if_neg z
  have ne : ∀ k' i', bb_ok (N 0) cnt k' i' → L k' i' ≠ q := by
    intro k' i' hok e
    have := hR.1 k' i' hok
    rw [e, hq] at this
    cases this
  refine ⟨fun k' i' hok => ?_, fun k1 i1 k2 i2 h1 h2 e => ?_⟩
  · rcases okd k' i' hok with ⟨rfl, rfl⟩ | ⟨z, hok1⟩
    · rw [bb_L_n, hs]
      simp [bb_cel, bb_newS, db_up]
    · rw [Lo k' i' z, ho _ (ne k' i' hok1), hR.1 k' i' hok1, bb_newS_o z]
      congr 1
      by_cases q12 : k' = 12
      · subst q12
        rfl
      · refine (bb_cel_L hcn hRw ?_ ?_).symm
        · unfold bb_ok at hok1
          omega
        · intro q5
          unfold bb_ok at hok1
          omega
  · rcases okd k1 i1 h1 with ⟨rfl, rfl⟩ | ⟨z1, hok1⟩
    · rcases okd k2 i2 h2 with ⟨rfl, rfl⟩ | ⟨z2, hok2⟩
      · exact ⟨rfl, rfl⟩
      · rw [bb_L_n, Lo k2 i2 z2] at e
        exact absurd e.symm (ne k2 i2 hok2)
    · rcases okd k2 i2 h2 with ⟨rfl, rfl⟩ | ⟨z2, hok2⟩
      · rw [bb_L_n, Lo k1 i1 z1] at e
        exact absurd e (ne k1 i1 hok1)
      · rw [Lo k1 i1 z1, Lo k2 i2 z2] at e
        exact hR.2 _ _ _ _ hok1 hok2 e
def bb_asg (N : Nat → Nat) (X : db_X) (t b k g : Int32) : Int32 := if bb_isLive N X t = 0 then 0 else if bb_isLock N k = 0 then 0 else if ¬ X 2 t.toNatClampNeg 0 = 0 then 0 else if b < 0 then 0 else if g < 1 then 0 else if g ≤ X 1 t.toNatClampNeg 3 - b then 1 else 0
def bb_addSec (N : Nat → Nat) (X : db_X) (sz cnt : Nat) (t b k g : Int32) : Int32 × db_X × Nat := if bb_asg N X t b k g = 0 then (0, X, cnt) else ((bb_ins N (bb_newS X cnt t b k g) sz cnt).1, (bb_ins N (bb_newS X cnt t b k g) sz cnt).2, cnt + 1)
theorem bb_I.newS {N : Nat → Nat} {cnt sz : Nat} {X : db_X} (h : bb_I N cnt sz X) (hcn : cnt < 2 ^ 31) {t b k g : Int32} : bb_I N (cnt + 1) sz (bb_newS X cnt t b k g) := by
  have e : ∀ k' i' f', ¬ k' = 12 → bb_newS X cnt t b k g k' i' f' = X k' i' f' := fun k' i' f' z => congrFun (bb_newS_o (fun w => z w.1)) f'
  refine ⟨fun i' hi => by rw [e 2 i' 4 (by simp)]; exact h.1 i' hi, fun k' hk => by rw [e 3 0 k' (by simp)]; exact h.2.1 k' hk, by rw [e 4 0 1 (by simp)]; exact h.2.2.1, h.2.2.2.1, fun p hp => ?_⟩
  obtain ⟨h1, h2⟩ := h.2.2.2.2 p hp
  have e5 : bb_newS X cnt t b k g 5 0 p = X 5 0 p := e 5 0 p (by simp)
  unfold bb_sec at h2 ⊢
  rw [e5]
  refine ⟨?_, ?_⟩
  · obtain ⟨j, hj, ej⟩ := h1
    exact ⟨j, by omega, ej⟩
  · rw [congrFun (bb_newS_o (X := X) (fun w => by have := h1.lt hcn; omega)) 2]
    exact h2
