/-! the start of the class's world -/
def bb_L0 (a n : Nat) (k i : Nat) : Nat := if k = 0 then a else if k = 11 then a + 1 else if k = 1 then a + 2 + 2 * i else if k = 2 then a + 3 + 2 * i else a + 2 + 2 * n + (k - 3)
def bb_mkN (n nl ns ng : Nat) (k : Nat) : Nat := match k with
  | 0 => n
  | 1 => nl
  | 2 => ns
  | _ => ng
def bb_X0 (la : Nat) (k i f : Nat) : Int32 := if k = 0 ∧ f = 5 then nI la else if k = 2 ∧ f = 4 then -1 else if k = 3 then -1 else if k = 5 then -1 else 0
theorem bb_L0_inj {a n k i k' i' : Nat} (h : bb_ok n 0 k i) (h' : bb_ok n 0 k' i') (e : bb_L0 a n k i = bb_L0 a n k' i') : k = k' ∧ i = i' := by
  unfold bb_ok at h h'
  unfold bb_L0 at e
  split at e
  · split at e
    · omega
    · split at e
      · omega
      · split at e
        · omega
        · split at e <;> omega
  · split at e
    · split at e
      · omega
      · split at e
        · omega
        · split at e
          · omega
          · split at e <;> omega
    · split at e
      · split at e
        · omega
        · split at e
          · omega
          · split at e
            · omega
            · split at e <;> omega
      · split at e
        · split at e
          · omega
          · split at e
            · omega
            · split at e
              · omega
              · split at e <;> omega
        · split at e
          · omega
          · split at e
            · omega
            · split at e
              · omega
              · split at e <;> omega
theorem bb_R0 {Γ : db_G} {a n nl ns ng la : Nat} {h : db_Mem}
    (h0 : h a = some (.inr (6, [.ref (a + 1), .ref (a + 2 + 2 * n), .ref (a + 3 + 2 * n), .ref (a + 5 + 2 * n), .ref (a + 8 + 2 * n), .int (nI la), .int 0, .int 0])))
    (h11 : h (a + 1) = some (.inl (Γ.2 2, n, .inr (.inr (.inr (.inr (fun p => some (a + 2 + 2 * p))))))))
    (hT : ∀ i, i < n → h (a + 2 + 2 * i) = some (.inr (5, [.ref (a + 3 + 2 * i), .int 0, .int 0, .int 0, .int 0, .int 0, .int 0, .int 0, .int 0, .int 0, .int 0, .int 0])))
    (hJ : ∀ i, i < n → h (a + 3 + 2 * i) = some (.inr (0, [.int 0, .int 0, .int 0, .int 0, .int (-1), .int 0, .int 0])))
    (h3 : h (a + 2 + 2 * n) = some (.inl (Γ.2 0, nl, .inl (fun _ => -1))))
    (h4 : h (a + 3 + 2 * n) = some (.inr (4, [.ref (a + 4 + 2 * n), .int 0])))
    (h5 : h (a + 4 + 2 * n) = some (.inl (Γ.2 3, ns, .inr (.inr (.inr (.inr (fun _ => none)))))))
    (h6 : h (a + 5 + 2 * n) = some (.inr (1, [.ref (a + 6 + 2 * n), .ref (a + 7 + 2 * n), .int 0])))
    (h7 : h (a + 6 + 2 * n) = some (.inl (Γ.2 0, ng, .inl (fun _ => 0))))
    (h8 : h (a + 7 + 2 * n) = some (.inl (Γ.2 0, ng, .inl (fun _ => 0))))
    (h9 : h (a + 8 + 2 * n) = some (.inr (2, [.ref (a + 9 + 2 * n), .int 0])))
    (h10 : h (a + 9 + 2 * n) = some (.inl (Γ.2 0, 100, .inl (fun _ => 0)))) :
    db_R (bb_L0 a n) (bb_ok n 0) (bb_cel Γ (bb_mkN n nl ns ng) (bb_L0 a n)) (bb_X0 la) h := by
  have e3 : bb_L0 a n 3 0 = a + 2 + 2 * n := rfl
  have e4 : bb_L0 a n 4 0 = a + 3 + 2 * n := by show a + 2 + 2 * n + 1 = _; omega
  have e5 : bb_L0 a n 5 0 = a + 4 + 2 * n := by show a + 2 + 2 * n + 2 = _; omega
  have e6 : bb_L0 a n 6 0 = a + 5 + 2 * n := by show a + 2 + 2 * n + 3 = _; omega
  have e7 : bb_L0 a n 7 0 = a + 6 + 2 * n := by show a + 2 + 2 * n + 4 = _; omega
  have e8 : bb_L0 a n 8 0 = a + 7 + 2 * n := by show a + 2 + 2 * n + 5 = _; omega
  have e9 : bb_L0 a n 9 0 = a + 8 + 2 * n := by show a + 2 + 2 * n + 6 = _; omega
  have e10 : bb_L0 a n 10 0 = a + 9 + 2 * n := by show a + 2 + 2 * n + 7 = _; omega
  have e0 : bb_L0 a n 0 0 = a := rfl
  have e11 : bb_L0 a n 11 0 = a + 1 := rfl
  have e1 : ∀ i, bb_L0 a n 1 i = a + 2 + 2 * i := fun _ => rfl
  have e2 : ∀ i, bb_L0 a n 2 i = a + 3 + 2 * i := fun _ => rfl
  refine ⟨fun k i hok => ?_, fun k i k' i' h1 h2 e => bb_L0_inj h1 h2 e⟩
  rcases hok with ⟨hk, hi⟩ | ⟨-, hi⟩ | ⟨hk, k1, k2, rfl⟩
  · rcases hk with rfl | rfl
    · rw [e1, hT i hi]
      simp [bb_cel, e2, bb_X0]
    · rw [e2, hJ i hi]
      simp [bb_cel, bb_X0]
  · omega
  · have hs : k = 0 ∨ k = 3 ∨ k = 4 ∨ k = 5 ∨ k = 6 ∨ k = 7 ∨ k = 8 ∨ k = 9 ∨ k = 10 ∨ k = 11 := by omega
    rcases hs with rfl | rfl | rfl | rfl | rfl | rfl | rfl | rfl | rfl | rfl
    · rw [e0, h0]
      simp [bb_cel, e11, e3, e4, e6, e9, bb_X0]
    · rw [e3, h3]
      simp only [bb_cel, bb_mkN]
      congr 5
    · rw [e4, h4]
      simp [bb_cel, e5, bb_X0]
    · rw [e5, h5]
      simp only [bb_cel, bb_mkN]
      congr 8
    · rw [e6, h6]
      simp [bb_cel, e7, e8, bb_X0]
    · rw [e7, h7]
      simp only [bb_cel, bb_mkN]
      congr 5
    · rw [e8, h8]
      simp only [bb_cel, bb_mkN]
      congr 5
    · rw [e9, h9]
      simp [bb_cel, e10, bb_X0]
    · rw [e10, h10]
      simp only [bb_cel]
      congr 5
    · rw [e11, h11]
      rfl
