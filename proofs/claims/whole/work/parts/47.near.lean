theorem arrV_ext {cA : ClassId} {n : Nat} {f g : Nat → Value} (h : ∀ j, j < n → f j = g j) : arrV cA n f = arrV cA n g := by
  unfold arrV
  congr 2
  funext j
  exact h j.val j.isLt
theorem db_W.iext {Γ : db_G} {A : Nat → Prop} {H0 H : Heap} {h : db_Mem} {locs : List Loc} {a n : Nat} {cA : ClassId} {f g : Nat → Int32} (hw : db_W Γ A H0 h H locs) (ha : h a = some (.inl (cA, n, .inl f))) (hf : ∀ j, j < n → f j = g j) : db_W Γ A H0 (db_set h a (.inl (cA, n, .inl g))) H locs := by
  refine ⟨fun q y hq => ?_, fun q y hq => ?_, hw.2.2.1, hw.2.2.2⟩
  · unfold db_set at hq
    split at hq
    · rename_i e
      subst e
      cases hq
      have h1 : H[q]? = some (vp_cell cA (n, .inl f)) := hw.1 q _ ha
      show H[q]? = some (vp_cell cA (n, .inl g))
      rw [h1, vp_cell_i, vp_cell_i, arrV_ext (fun j hj => by rw [hf j hj])]
    · exact hw.1 q y hq
  · unfold db_set at hq
    split at hq
    · rename_i e; subst e; exact hw.2.1 _ _ ha
    · exact hw.2.1 q y hq
theorem db_W.qext {Γ : db_G} {A : Nat → Prop} {H0 H : Heap} {h : db_Mem} {locs : List Loc} {a n : Nat} {cA : ClassId} {f g : Nat → Option Nat} (hw : db_W Γ A H0 h H locs) (ha : h a = some (.inl (cA, n, .inr (.inr (.inr (.inr f)))))) (hf : ∀ j, j < n → f j = g j) : db_W Γ A H0 (db_set h a (.inl (cA, n, .inr (.inr (.inr (.inr g)))))) H locs := by
  refine ⟨fun q y hq => ?_, fun q y hq => ?_, hw.2.2.1, hw.2.2.2⟩
  · unfold db_set at hq
    split at hq
    · rename_i e
      subst e
      cases hq
      have h1 : H[q]? = some (vp_cell cA (n, .inr (.inr (.inr (.inr f))))) := hw.1 q _ ha
      show H[q]? = some (vp_cell cA (n, .inr (.inr (.inr (.inr g)))))
      rw [h1, vp_cell_q, vp_cell_q, arrV_ext (fun j hj => by rw [hf j hj])]
    · exact hw.1 q y hq
  · unfold db_set at hq
    split at hq
    · rename_i e; subst e; exact hw.2.1 _ _ ha
    · exact hw.2.1 q y hq
/-- the nearest number within lo .. hi -/
def bb_near (v : Int32) (lo hi : Nat) : Nat := if v.toInt < lo then lo else if (hi : Int) < v.toInt then hi else v.toInt.toNat
theorem bb_near_in {v : Int32} {lo hi : Nat} (h : lo ≤ hi) : lo ≤ bb_near v lo hi ∧ bb_near v lo hi ≤ hi := by
  unfold bb_near
  split
  · omega
  · split
    · omega
    · omega
theorem bb_near_eq {v : Int32} {lo hi : Nat} (h : lo ≤ hi) (hh : hi < 2 ^ 31) : (if nI lo < (if nI hi < v then nI hi else v) then (if nI hi < v then nI hi else v) else nI lo) = nI (bb_near v lo hi) := by
  have a1 := nI_toInt (n := lo) (by omega)
  have a2 := nI_toInt (n := hi) hh
  unfold bb_near
  by_cases q1 : nI hi < v
  · have q1' := Int32.lt_iff_toInt_lt.mp q1
    rw [a2] at q1'
    rw [if_pos q1]
    have n1 : ¬ v.toInt < lo := by omega
    rw [if_neg n1, if_pos q1']
    by_cases q2 : nI lo < nI hi
    · rw [if_pos q2]
    · rw [if_neg q2]
      have : ¬ lo < hi := fun z => q2 (nI_lt z hh)
      rw [show lo = hi by omega]
  · have q1' : ¬ (hi : Int) < v.toInt := fun z => q1 (Int32.lt_iff_toInt_lt.mpr (by rw [a2]; exact z))
    rw [if_neg q1]
    by_cases q2 : nI lo < v
    · have q2' := Int32.lt_iff_toInt_lt.mp q2
      rw [a1] at q2'
      rw [if_pos q2, if_neg (by omega), if_neg q1']
      exact Int32.toInt_inj.mp (by rw [nI_toInt (by omega)]; omega)
    · have q2' : ¬ (lo : Int) < v.toInt := fun z => q2 (Int32.lt_iff_toInt_lt.mpr (by rw [a1]; exact z))
      rw [if_neg q2]
      by_cases q3 : v.toInt < lo
      · rw [if_pos q3]
      · rw [if_neg q3, if_neg q1']
        congr 1
        omega
theorem bb_within_eq {v : Int32} {lo hi : Nat} (h : lo ≤ hi) (hh : hi < 2 ^ 31) : (if nI lo ≤ v then (if v ≤ nI hi then v else nI hi) else nI lo) = nI (bb_near v lo hi) := by
  have a1 := nI_toInt (n := lo) (by omega)
  have a2 := nI_toInt (n := hi) hh
  unfold bb_near
  by_cases q1 : nI lo ≤ v
  · have q1' := Int32.le_iff_toInt_le.mp q1
    rw [a1] at q1'
    have n1 : ¬ v.toInt < (lo : Int) := by omega
    rw [if_pos q1, if_neg n1]
    by_cases q2 : v ≤ nI hi
    · have q2' := Int32.le_iff_toInt_le.mp q2
      rw [a2] at q2'
      have n2 : ¬ (hi : Int) < v.toInt := by omega
      rw [if_pos q2, if_neg n2]
      exact Int32.toInt_inj.mp (by rw [nI_toInt (by omega)]; omega)
    · have q2' : ¬ v.toInt ≤ (hi : Int) := fun z => q2 (Int32.le_iff_toInt_le.mpr (by rw [a2]; exact z))
      have n2 : (hi : Int) < v.toInt := by omega
      rw [if_neg q2, if_pos n2]
  · have q1' : ¬ (lo : Int) ≤ v.toInt := fun z => q1 (Int32.le_iff_toInt_le.mpr (by rw [a1]; exact z))
    have n1 : v.toInt < (lo : Int) := by omega
    rw [if_neg q1, if_pos n1]
