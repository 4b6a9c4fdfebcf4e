/-! the demand, in whole numbers -/
def db_D (lv : Nat → Bool) (w d p : Nat → Nat) (t : Nat) : Nat → Nat
  | 0 => 0
  | i + 1 => db_D lv w d p t i + (if lv i = true ∧ d i ≤ t then w i * (1 + (t - d i) / p i) else 0)
theorem db_D_mono {lv : Nat → Bool} {w d p : Nat → Nat} {t t' : Nat} (h : t ≤ t') : ∀ n, db_D lv w d p t n ≤ db_D lv w d p t' n
  | 0 => Nat.le_refl _
  | n + 1 => by
    have h1 := db_D_mono (lv := lv) (w := w) (d := d) (p := p) h n
    unfold db_D
    by_cases q : lv n = true ∧ d n ≤ t
    · have q2 : lv n = true ∧ d n ≤ t' := ⟨q.1, by omega⟩
      rw [if_pos q, if_pos q2]
      have h2 : (t - d n) / p n ≤ (t' - d n) / p n := Nat.div_le_div_right (by omega)
      have h3 : w n * (1 + (t - d n) / p n) ≤ w n * (1 + (t' - d n) / p n) := Nat.mul_le_mul_left _ (by omega)
      omega
    · rw [if_neg q]; omega
theorem db_D_bound {lv : Nat → Bool} {w d p : Nat → Nat} {t : Nat} (ht : t ≤ 20000) : ∀ n, (∀ i, i < n → lv i = true → w i ≤ 20000) → db_D lv w d p t n ≤ n * 400020000
  | 0, _ => Nat.zero_le _
  | n + 1, hw => by
    have h1 := db_D_bound (lv := lv) (w := w) (d := d) (p := p) ht n (fun i hi => hw i (by omega))
    unfold db_D
    by_cases q : lv n = true ∧ d n ≤ t
    · rw [if_pos q]
      have h2 : (t - d n) / p n ≤ 20000 := Nat.le_trans (Nat.div_le_self _ _) (by omega)
      have h3 : w n * (1 + (t - d n) / p n) ≤ 20000 * 20001 := Nat.mul_le_mul (hw n (by omega) q.1) (by omega)
      omega
    · rw [if_neg q, Nat.add_zero]
      exact Nat.le_trans h1 (Nat.mul_le_mul_right _ (Nat.le_succ n))
def db_task (a p w d : Int32) : Prop := ¬ a = 0 → ∃ p' w' d' : Nat, 0 < w' ∧ w' ≤ d' ∧ d' ≤ p' ∧ p' ≤ 20000 ∧ p = nI p' ∧ w = nI w' ∧ d = nI d'
def bb_V (N : Nat → Nat) (X : db_X) : Prop := ∀ i, i < N 0 → db_task (X 1 i 1) (X 1 i 2) (X 1 i 3) (X 1 i 4)
def mm_V (N : Nat → Nat) (Y : db_X) : Prop := ∀ i, i < N 0 → db_task (Y 6 0 i) (Y 7 0 i) (Y 8 0 i) (Y 9 0 i)
def bb_Dm (N : Nat → Nat) (X : db_X) (t : Nat) : Nat := db_D (fun i => decide (¬ X 1 i 1 = 0)) (fun i => (X 1 i 3).toNatClampNeg) (fun i => (X 1 i 4).toNatClampNeg) (fun i => (X 1 i 2).toNatClampNeg) t (N 0)
def mm_Dm (N : Nat → Nat) (Y : db_X) (t : Nat) : Nat := db_D (fun i => decide (¬ Y 6 0 i = 0)) (fun i => (Y 8 0 i).toNatClampNeg) (fun i => (Y 9 0 i).toNatClampNeg) (fun i => (Y 7 0 i).toNatClampNeg) t (N 0)
theorem db_term {t p w d : Nat} (ht : t ≤ 20000) (h1 : w ≤ 20000) (h2 : 0 < p) (h3 : p ≤ 20000) (h4 : d ≤ t) : (nI w).toInt64 * (1 + (nI t - nI d) / nI p).toInt64 = lN (w * (1 + (t - d) / p)) := by
  rw [pk_sub h4, pk_div (by omega) h2 (by omega), show (1 : Int32) = nI 1 from rfl, nI_add, nI_l (by omega), nI_l, lN_mul]
  have : (t - d) / p ≤ 20000 := Nat.le_trans (Nat.div_le_self _ _) (by omega)
  omega
theorem bb_dem_eq {N : Nat → Nat} {X : db_X} {t : Nat} (ht : t ≤ 20000) (hV : bb_V N X) : ∀ n, n ≤ N 0 → bb_dem X (nI t) n = lN (db_D (fun i => decide (¬ X 1 i 1 = 0)) (fun i => (X 1 i 3).toNatClampNeg) (fun i => (X 1 i 4).toNatClampNeg) (fun i => (X 1 i 2).toNatClampNeg) t n)
  | 0, _ => rfl
  | n + 1, hn => by
    have ih := bb_dem_eq ht hV n (by omega)
    unfold bb_dem db_D
    by_cases q : X 1 n 1 = 0
    · rw [if_pos q, ih, if_neg (by simp [q])]; rfl
    · obtain ⟨p, w, d, h1, h2, h3, h4, e1, e2, e3⟩ := hV n (by omega) q
      rw [if_neg q, e1, e2, e3, nI_clamp (by omega), nI_clamp (by omega), nI_clamp (by omega)]
      by_cases q2 : d ≤ t
      · rw [if_neg (fun z => absurd ((nI_ltI (by omega) (by omega)).mp z) (by omega)), if_neg (nI_nle (by omega) (by omega)), if_pos ⟨by simp [q], q2⟩, ih, db_term ht (by omega) (by omega) h4 q2, lN_add]
      · rw [if_pos (nI_lt (by omega) (by omega)), if_neg (fun z => q2 z.2), ih]; rfl
theorem mm_sm_eq {N : Nat → Nat} {X : db_X} {t : Nat} (ht : t ≤ 20000) (hV : mm_V N X) : ∀ n, n ≤ N 0 → mm_sm X (nI t) n = lN (db_D (fun i => decide (¬ X 6 0 i = 0)) (fun i => (X 8 0 i).toNatClampNeg) (fun i => (X 9 0 i).toNatClampNeg) (fun i => (X 7 0 i).toNatClampNeg) t n)
  | 0, _ => rfl
  | n + 1, hn => by
    have ih := mm_sm_eq ht hV n (by omega)
    unfold mm_sm db_D
    by_cases q : X 6 0 n = 0
    · rw [if_pos q, ih, if_neg (by simp [q])]; rfl
    · obtain ⟨p, w, d, h1, h2, h3, h4, e1, e2, e3⟩ := hV n (by omega) q
      rw [if_neg q, e1, e2, e3, nI_clamp (by omega), nI_clamp (by omega), nI_clamp (by omega)]
      by_cases q2 : d ≤ t
      · rw [if_neg (fun z => absurd ((nI_ltI (by omega) (by omega)).mp z) (by omega)), if_pos ⟨by simp [q], q2⟩, ih, db_term ht (by omega) (by omega) h4 q2, lN_add]
      · rw [if_pos (nI_lt (by omega) (by omega)), if_neg (fun z => q2 z.2), ih]; rfl
theorem bb_Dm_bound {N : Nat → Nat} {X : db_X} {t : Nat} (hN : bb_N N) (ht : t ≤ 20000) (hV : bb_V N X) : bb_Dm N X t < 2 ^ 62 := by
  have h := db_D_bound (lv := fun i => decide (¬ X 1 i 1 = 0)) (w := fun i => (X 1 i 3).toNatClampNeg) (d := fun i => (X 1 i 4).toNatClampNeg) (p := fun i => (X 1 i 2).toNatClampNeg) ht (N 0) (by
    intro i hi q
    obtain ⟨p, w, d, h1, h2, h3, h4, e1, e2, e3⟩ := hV i hi (by simpa using q)
    show (X 1 i 3).toNatClampNeg ≤ 20000
    rw [e2, nI_clamp (by omega)]; omega)
  have h2 := hN.2.1
  have h3 : N 0 * 400020000 ≤ 40 * 400020000 := Nat.mul_le_mul_right _ h2
  unfold bb_Dm
  omega
theorem mm_Dm_bound {N : Nat → Nat} {X : db_X} {t : Nat} (hN : bb_N N) (ht : t ≤ 20000) (hV : mm_V N X) : mm_Dm N X t < 2 ^ 62 := by
  have h := db_D_bound (lv := fun i => decide (¬ X 6 0 i = 0)) (w := fun i => (X 8 0 i).toNatClampNeg) (d := fun i => (X 9 0 i).toNatClampNeg) (p := fun i => (X 7 0 i).toNatClampNeg) ht (N 0) (by
    intro i hi q
    obtain ⟨p, w, d, h1, h2, h3, h4, e1, e2, e3⟩ := hV i hi (by simpa using q)
    show (X 8 0 i).toNatClampNeg ≤ 20000
    rw [e2, nI_clamp (by omega)]; omega)
  have h2 := hN.2.1
  have h3 : N 0 * 400020000 ≤ 40 * 400020000 := Nat.mul_le_mul_right _ h2
  unfold mm_Dm
  omega
theorem lg_neg {a b : Nat} (ha : a < 2 ^ 62) (hb : b < 2 ^ 62) : lg_cmp (lN a) (lN b) < 0 ↔ a < b := by
  unfold lg_cmp
  by_cases h1 : lN a > lN b
  · rw [if_pos h1]
    have := (pk_lLT (a := b) (b := a) (by omega) (by omega)).mp h1
    constructor
    · intro z; exact absurd z (by decide)
    · intro z; omega
  · rw [if_neg h1]
    have n1 : ¬ b < a := fun z => h1 ((pk_lLT (by omega) (by omega)).mpr z)
    by_cases h2 : lN a = lN b
    · rw [if_pos h2]
      have := (pk_lEQ (by omega) (by omega)).mp h2
      constructor
      · intro z; exact absurd z (by decide)
      · intro z; omega
    · rw [if_neg h2]
      have n2 : ¬ a = b := fun z => h2 ((pk_lEQ (by omega) (by omega)).mpr z)
      constructor
      · intro _; omega
      · intro _; decide
theorem lg_pos {a b : Nat} (ha : a < 2 ^ 62) (hb : b < 2 ^ 62) : 0 < lg_cmp (lN a) (lN b) ↔ b < a := by
  unfold lg_cmp
  by_cases h1 : lN a > lN b
  · rw [if_pos h1]
    have := (pk_lLT (a := b) (b := a) (by omega) (by omega)).mp h1
    constructor
    · intro _; exact this
    · intro _; decide
  · rw [if_neg h1]
    have n1 : ¬ b < a := fun z => h1 ((pk_lLT (by omega) (by omega)).mpr z)
    constructor
    · intro z
      split at z
      · exact absurd z (by decide)
      · exact absurd z (by decide)
    · intro z; exact absurd z n1
def bb_adm (N : Nat → Nat) (X : db_X) (la : Nat) : Int32 := if (∀ t, t < la → bb_Dm N X t ≤ t) then 1 else 0
theorem mm_ad_eq {N : Nat → Nat} {X : db_X} (hN : bb_N N) (hV : mm_V N X) : ∀ q t : Nat, t + q ≤ 20001 → mm_ad N X q t = if (∀ j, j < q → mm_Dm N X (t + j) ≤ t + j) then 1 else 0
  | 0, t, _ => by
    rw [if_pos (fun j h2 => absurd h2 (by omega))]; rfl
  | q + 1, t, h => by
    unfold mm_ad
    rw [mm_sm_eq (by omega) hV _ (Nat.le_refl _), nI_l (by omega), mm_ad_eq hN hV q (t + 1) (by omega)]
    have hb := mm_Dm_bound hN (t := t) (by omega) hV
    by_cases z : 0 < lg_cmp (lN (mm_Dm N X t)) (lN t)
    · have z2 := (lg_pos hb (by omega)).mp z
      have n1 : ¬ ∀ j, j < q + 1 → mm_Dm N X (t + j) ≤ t + j := by
        intro w
        have := w 0 (by omega)
        rw [Nat.add_zero] at this
        omega
      rw [if_neg n1]
      exact if_pos z
    · have z2 : ¬ t < mm_Dm N X t := fun w => z ((lg_pos hb (by omega)).mpr w)
      refine (if_neg z).trans ?_
      by_cases w : ∀ j, j < q → mm_Dm N X (t + 1 + j) ≤ t + 1 + j
      · have w2 : ∀ j, j < q + 1 → mm_Dm N X (t + j) ≤ t + j := by
          intro j hj
          cases j with
          | zero => rw [Nat.add_zero]; omega
          | succ j =>
            have := w j (by omega)
            rw [show t + (j + 1) = t + 1 + j by omega]
            exact this
        rw [if_pos w, if_pos w2]
      · have w2 : ¬ ∀ j, j < q + 1 → mm_Dm N X (t + j) ≤ t + j := by
          intro w2
          refine w (fun j hj => ?_)
          have := w2 (j + 1) (by omega)
          rw [show t + (j + 1) = t + 1 + j by omega] at this
          exact this
        rw [if_neg w, if_neg w2]
