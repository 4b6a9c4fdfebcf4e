/-! the start of the reference's world -/
def mm_fo (i : Nat) : Nat := if i < 18 then i + 6 else if i < 23 then i + 7 else i + 8
def mm_ar (Γ : db_G) (i : Nat) : va_E := mm_cel Γ (fun _ => 0) (fun _ _ => 0) (mm_fo i) 0 (fun _ => 0)
def mm_L0 (a : Nat) (k _i : Nat) : Nat := if k = 0 then a else if k ≤ 23 then a + 1 + (k - 6) else if k ≤ 29 then a + 1 + (k - 7) else a + 1 + (k - 8)
def mm_Y0 (la : Nat) (k _i f : Nat) : Int32 := if k = 0 ∧ f = 4 then nI la else if k = 23 then -1 else 0
theorem mm_R0 {Γ : db_G} {a n nl ns ng la : Nat} {h : db_Mem}
    (h0 : h a = some (.inr (7, [.int (nI n), .int (nI nl), .int (nI ns), .int (nI ng), .int (nI la), .int 0, .ref (a + 1), .ref (a + 2), .ref (a + 3), .ref (a + 4), .ref (a + 5), .ref (a + 6), .ref (a + 7), .ref (a + 8), .ref (a + 9), .ref (a + 10), .ref (a + 11), .ref (a + 12), .ref (a + 13), .ref (a + 14), .ref (a + 15), .ref (a + 16), .ref (a + 17), .ref (a + 18), .int 0, .ref (a + 19), .ref (a + 20), .ref (a + 21), .ref (a + 22), .ref (a + 23), .int 0, .ref (a + 24), .ref (a + 25), .ref (a + 26), .int 0, .int 0])))
    (hA : ∀ i, i < 26 → i ≠ 17 → h (a + 1 + i) = some (mm_ar Γ i))
    (hH : h (a + 18) = some (.inl (Γ.2 0, 16, .inl (fun _ => -1)))) :
    db_R (mm_L0 a) mm_ok (mm_cel Γ (bb_mkN n nl ns ng) (mm_L0 a)) (mm_Y0 la) h := by
  refine ⟨fun k i hok => ?_, fun k i k' i' h1 h2 e => ?_⟩
  · obtain ⟨rfl, hk⟩ := hok
    rcases hk with rfl | ⟨h6, h33, h24, h30⟩
    · show h a = _
      rw [h0]
      rfl
    · have hs : k = 6 ∨ k = 7 ∨ k = 8 ∨ k = 9 ∨ k = 10 ∨ k = 11 ∨ k = 12 ∨ k = 13 ∨ k = 14 ∨ k = 15 ∨ k = 16 ∨ k = 17 ∨ k = 18 ∨ k = 19 ∨ k = 20 ∨ k = 21 ∨ k = 22 ∨ k = 23 ∨ k = 25 ∨ k = 26 ∨ k = 27 ∨ k = 28 ∨ k = 29 ∨ k = 31 ∨ k = 32 ∨ k = 33 := by omega
      rcases hs with rfl | rfl | rfl | rfl | rfl | rfl | rfl | rfl | rfl | rfl | rfl | rfl | rfl | rfl | rfl | rfl | rfl | rfl | rfl | rfl | rfl | rfl | rfl | rfl | rfl | rfl
      · exact hA 0 (by decide) (by decide)
      · exact hA 1 (by decide) (by decide)
      · exact hA 2 (by decide) (by decide)
      · exact hA 3 (by decide) (by decide)
      · exact hA 4 (by decide) (by decide)
      · exact hA 5 (by decide) (by decide)
      · exact hA 6 (by decide) (by decide)
      · exact hA 7 (by decide) (by decide)
      · exact hA 8 (by decide) (by decide)
      · exact hA 9 (by decide) (by decide)
      · exact hA 10 (by decide) (by decide)
      · exact hA 11 (by decide) (by decide)
      · exact hA 12 (by decide) (by decide)
      · exact hA 13 (by decide) (by decide)
      · exact hA 14 (by decide) (by decide)
      · exact hA 15 (by decide) (by decide)
      · exact hA 16 (by decide) (by decide)
      · exact hH
      · exact hA 18 (by decide) (by decide)
      · exact hA 19 (by decide) (by decide)
      · exact hA 20 (by decide) (by decide)
      · exact hA 21 (by decide) (by decide)
      · exact hA 22 (by decide) (by decide)
      · exact hA 23 (by decide) (by decide)
      · exact hA 24 (by decide) (by decide)
      · exact hA 25 (by decide) (by decide)
  · obtain ⟨rfl, hk⟩ := h1
    obtain ⟨rfl, hk'⟩ := h2
    refine ⟨?_, rfl⟩
    unfold mm_L0 at e
    split at e
    · split at e
      · omega
      · split at e
        · omega
        · split at e <;> omega
    · split at e
      · split at e
        · omega
        · split at e
          · omega
          · split at e <;> omega
      · split at e
        · split at e
          · omega
          · split at e
            · omega
            · split at e <;> omega
        · split at e
          · omega
          · split at e
            · omega
            · split at e <;> omega
