/-! the other calls -/
theorem rr.rc {N : Nat → Nat} {X Y : db_X} {sz cnt th tm la : Nat} (h : rr N X Y sz cnt th tm la) : rc N X Y := ⟨h.t.t2, h.hh, h.mI.1, h.mI.2.1, h.j⟩
theorem rr.inh {N : Nat → Nat} {X Y : db_X} {sz cnt th tm la : Nat} (hN : bb_N N) (h : rr N X Y sz cnt th tm la) : rr N (bb_inh N X) (mm_rk N Y) sz cnt th tm la := by
  have hc := h.rc.inh
  have ex : ∀ k i f, ¬ k = 2 → bb_inh N X k i f = X k i f := fun k i f z => bb_inh_s5 k i f (fun w => z w.1)
  have ey : ∀ r s, ¬ r = 29 → mm_rk N Y r 0 s = Y r 0 s := fun r s z => mm_rk_s r 0 s (fun w => z w.1)
  have ht : rt1 N (bb_inh N X) (mm_rk N Y) := h.t.t1.fr (fun i f => ex 1 i f (by decide)) (fun r i _ _ => ey r i (by omega))
  refine ⟨rr_T_of ht hc.1, hc.2.1, ⟨?_, ?_, ?_, ?_, ?_, fun j => ?_, fun j => ?_, fun j => ?_⟩, h.bI.inh, h.mI.rk, h.rw.fr (fun p => ex 5 0 p (by decide)), ?_, ?_, ?_, bb_V_of ht (h.mV.fr (fun r i _ _ => ey r i (by omega))), hc.2.2.2.2, h.s.fr (fun p f => bb_inh_s5.sec p f) (fun r s _ => ey r s (by omega)), h.l.rk h.s.2.1 hN, h.d.mono (fun r i _ => ey r i (by omega)) (fun i z => by rw [ey 17 i (by decide)] at z; exact z)⟩
  · rw [ex 0 0 5 (by decide), ey 0 4 (by decide)]; exact h.z.1
  · rw [ex 0 0 6 (by decide), ey 0 5 (by decide)]; exact h.z.2.1
  · rw [ex 0 0 7 (by decide), ey 0 35 (by decide)]; exact h.z.2.2.1
  · rw [ex 6 0 2 (by decide), ey 0 30 (by decide)]; exact h.z.2.2.2.1
  · rw [ex 9 0 1 (by decide), ey 0 34 (by decide)]; exact h.z.2.2.2.2.1
  · rw [ex 7 0 j (by decide), ey 31 j (by decide)]; exact h.z.2.2.2.2.2.1 j
  · rw [ex 8 0 j (by decide), ey 32 j (by decide)]; exact h.z.2.2.2.2.2.2.1 j
  · rw [ex 10 0 j (by decide), ey 33 j (by decide)]; exact h.z.2.2.2.2.2.2.2 j
  · rw [ex 0 0 5 (by decide)]; exact h.la
  · rw [ex 0 0 6 (by decide), ex 9 0 1 (by decide)]; exact h.th
  · rw [ex 6 0 2 (by decide)]; exact h.tm
theorem s_effective {N : Nat → Nat} {X Y : db_X} {sz cnt th tm la : Nat} (hN : bb_N N) (h : rr N X Y sz cnt th tm la) (t : Int32) : (bb_eff N X t).1 = (mm_eff N Y t).1 ∧ rr N (bb_eff N X t).2 (mm_eff N Y t).2 sz cnt th tm la := by
  have hn : N 0 < 2 ^ 31 := by have := hN.2.1; omega
  unfold bb_eff mm_eff
  rw [rr_isP hn h.t]
  by_cases q : mm_isP N Y t = 0
  · rw [if_pos q, if_pos q]; exact ⟨rfl, h⟩
  · rw [if_neg q, if_neg q]
    obtain ⟨j, hj, rfl⟩ := mm_isP_ix hn q
    refine ⟨?_, h.inh hN⟩
    show bb_inh N X 2 (nI j).toNatClampNeg 5 = mm_rk N Y 29 0 (nI j).toNatClampNeg
    rw [db_nIc hj hn]
    exact h.rc.E hN hj
theorem db_D_congr {lv lv' : Nat → Bool} {w d p w' d' p' : Nat → Nat} {t : Nat} : ∀ n, (∀ i, i < n → lv i = lv' i ∧ w i = w' i ∧ d i = d' i ∧ p i = p' i) → db_D lv w d p t n = db_D lv' w' d' p' t n
  | 0, _ => rfl
  | n + 1, h => by
    obtain ⟨a, b, c, d⟩ := h n (by omega)
    unfold db_D
    rw [db_D_congr n (fun i hi => h i (by omega)), a, b, c, d]
theorem s_admissible {N : Nat → Nat} {X Y : db_X} {sz cnt th tm la : Nat} (hN : bb_N N) (h : rr N X Y sz cnt th tm la) : bb_adm N X la = mm_ad N Y la 0 := by
  rw [mm_ad_eq hN h.mV la 0 (by have := h.la.2.2; omega)]
  have e : ∀ t, bb_Dm N X t = mm_Dm N Y t := by
    intro t
    unfold bb_Dm mm_Dm
    refine db_D_congr _ (fun i hi => ?_)
    have ht := h.t.t1
    rw [ht 1 (by decide) (by decide) i hi, ht 2 (by decide) (by decide) i hi, ht 3 (by decide) (by decide) i hi, ht 4 (by decide) (by decide) i hi]
    exact ⟨rfl, rfl, rfl, rfl⟩
  unfold bb_adm
  simp only [e, Nat.zero_add]
theorem s_count {N : Nat → Nat} {X Y : db_X} {sz cnt th tm la : Nat} (hN : bb_N N) (h : rr N X Y sz cnt th tm la) (w : Int32) : bb_count N X w = mm_count N Y w := by
  have hn : N 0 < 2 ^ 31 := by have := hN.2.1; omega
  have e1 : bb_liveTasks N X = db_cnt (fun j => decide (¬ Y 6 0 j = 0)) (N 0) := db_cnt_congr _ (fun j hj => by
    show decide (¬ X 1 j 1 = 0) = _
    rw [h.t.t1 1 (by decide) (by decide) j hj])
  have e2 : bb_pendingJobs N X = db_cnt (fun j => decide (¬ mm_isP N Y (nI j) = 0)) (N 0) := db_cnt_congr _ (fun j hj => by
    show decide (¬ X 2 j 0 = 0) = _
    rw [h.t.t2 0 (by decide) j hj]
    simp only [rr_isPn hn h.j hj])
  have e3 : X 4 0 1 = Y 0 0 24 := h.bI.2.2.1.trans h.mI.2.2.1.symm
  have e4 : bb_heldLocks N X = db_cnt (fun j => decide (¬ Y 23 0 j = -1)) (N 1) := db_cnt_congr _ (fun j hj => by
    show decide (¬ X 3 0 j = -1) = _
    rw [h.hh j hj])
  unfold bb_count mm_count
  rw [e1, e2, e3, e4, h.z.2.1, h.z.2.2.1, h.z.1]
/-! counting does not ask for the order -/
theorem db_cn_one {f g : Nat → Bool} {k : Nat} : ∀ n, k < n → (∀ i, i < n → i ≠ k → f i = g i) → db_cn f n + (if g k = true then 1 else 0) = db_cn g n + (if f k = true then 1 else 0)
  | 0, h, _ => absurd h (by omega)
  | n + 1, h, e => by
    rw [db_cn, db_cn]
    by_cases q : k = n
    · subst q
      rw [db_cn_congr k (fun i hi => e i (by omega) (by omega))]
      omega
    · have h1 := db_cn_one n (by omega) (fun i hi => e i (by omega))
      rw [e n (by omega) (fun z => q z.symm)]
      omega
theorem db_cn_perm {f : Nat → Bool} : ∀ (n : Nat) (π : Nat → Nat), (∀ p, p < n → π p < n) → (∀ p q, p < n → q < n → π p = π q → p = q) → db_cn (fun p => f (π p)) n = db_cn f n
  | 0, _, _, _ => rfl
  | n + 1, π, h1, h2 => by
    rw [db_cn, db_cn]
    by_cases q : π n = n
    · rw [q, db_cn_perm n π (fun p hp => by
        have a := h1 p (by omega)
        have b : π p ≠ n := fun z => by
          have := h2 p n (by omega) (by omega) (z.trans q.symm)
          omega
        omega) (fun p q hp hq e => h2 p q (by omega) (by omega) e)]
    · have hx : ∃ k, k < n ∧ π k = n := by
        obtain ⟨a, b, c1, c2, c3⟩ := php (n + 1) (fun k => if k < n + 1 then π k else n) (by
          intro k _
          show (if k < n + 1 then π k else n) < n + 1
          split
          · rename_i z; exact h1 k z
          · omega)
        have c3 : (if a < n + 1 then π a else n) = (if b < n + 1 then π b else n) := c3
        rw [if_pos (by omega : a < n + 1)] at c3
        by_cases z : b < n + 1
        · rw [if_pos z] at c3
          have := h2 a b (by omega) z c3
          omega
        · rw [if_neg z] at c3
          refine ⟨a, ?_, c3⟩
          have : a ≠ n := fun w => q (by rw [← w]; rw [c3]; exact w.symm)
          omega
      obtain ⟨k, hk, ek⟩ := hx
      have hpn : π n < n := by
        have := h1 n (by omega)
        omega
      have ih := db_cn_perm (f := f) n (fun p => if p = k then π n else π p) (fun p hp => by
        show (if p = k then π n else π p) < n
        split
        · exact hpn
        · rename_i z
          have a := h1 p (by omega)
          have b : π p ≠ n := fun w => z (h2 p k (by omega) (by omega) (w.trans ek.symm))
          omega) (fun p q hp hq e => by
        have e : (if p = k then π n else π p) = (if q = k then π n else π q) := e
        by_cases z1 : p = k
        · by_cases z2 : q = k
          · omega
          · rw [if_pos z1, if_neg z2] at e
            have := h2 n q (by omega) (by omega) e
            omega
        · by_cases z2 : q = k
          · rw [if_neg z1, if_pos z2] at e
            have := h2 p n (by omega) (by omega) e
            omega
          · rw [if_neg z1, if_neg z2] at e
            exact h2 p q (by omega) (by omega) e)
      have one := db_cn_one (f := fun p => f (π p)) (g := fun p => f (if p = k then π n else π p)) (k := k) n hk (fun i hi z => by
        show f (π i) = f (if i = k then π n else π i)
        rw [if_neg z])
      rw [ih] at one
      have one : db_cn (fun p => f (π p)) n + (if f (if k = k then π n else π k) = true then 1 else 0) = db_cn f n + (if f (π k) = true then 1 else 0) := one
      rw [if_pos rfl, ek] at one
      exact one
theorem db_cnt_cn {f : Nat → Bool} : ∀ n, db_cnt f n = nI (db_cn f n)
  | 0 => rfl
  | n + 1 => by
    rw [db_cnt, db_cn, db_cnt_cn n]
    by_cases q : f n = true
    · rw [if_pos q, if_pos q, nI_1]
    · rw [if_neg q, if_neg q]
      rfl
theorem rr_P.size {X Y : db_X} {sz : Nat} {π : Nat → Nat} (h : rr_P X Y sz π) (t : Int32) : db_cn (fun p => decide (bb_sec X p 0 = t)) sz = db_cn (fun s => decide (Y 25 0 s = t)) sz := by
  rw [← db_cn_perm (f := fun s => decide (Y 25 0 s = t)) sz π h.1 h.2.1]
  refine db_cn_congr _ (fun p hp => ?_)
  show decide (bb_sec X p 0 = t) = decide (Y 25 0 (π p) = t)
  rw [(h.2.2.1 p hp).1]
theorem s_task {N : Nat → Nat} {X Y : db_X} {sz cnt th tm la : Nat} (hN : bb_N N) (h : rr N X Y sz cnt th tm la) (t w : Int32) : bb_task N X sz t w = mm_task N Y sz t w := by
  have hn : N 0 < 2 ^ 31 := by have := hN.2.1; omega
  unfold bb_task mm_task
  rw [rr_isLive hn h.t]
  by_cases q : mm_isLive N Y t = 0
  · rw [if_pos q, if_pos q]
  · obtain ⟨j, hj, rfl⟩ := mm_isLive_ix hn q
    have ht := h.t.t1
    obtain ⟨π, hP⟩ := h.s.1
    have e : bb_sizeOf X sz (nI j) = mm_secOf Y sz (nI j) := by
      unfold bb_sizeOf mm_secOf
      rw [db_cnt_cn, db_cnt_cn, hP.size]
    rw [e, db_nIc hj hn, ht 2 (by decide) (by decide) j hj, ht 3 (by decide) (by decide) j hj, ht 4 (by decide) (by decide) j hj, ht 5 (by decide) (by decide) j hj, ht 6 (by decide) (by decide) j hj, ht 7 (by decide) (by decide) j hj, ht 8 (by decide) (by decide) j hj, ht 9 (by decide) (by decide) j hj, ht 10 (by decide) (by decide) j hj, ht 11 (by decide) (by decide) j hj]
theorem db_fst_congr {f g : Nat → Bool} : ∀ (q j : Nat), (∀ i, j ≤ i → i < j + q → f i = g i) → db_fst f q j = db_fst g q j
  | 0, _, _ => rfl
  | q + 1, j, h => by
    unfold db_fst
    rw [h j (Nat.le_refl _) (by omega), db_fst_congr q (j + 1) (fun i h1 h2 => h i (by omega) (by omega))]
theorem db_fst_hit {f : Nat → Bool} : ∀ (q j : Nat), db_fst f q j < j + q → f (db_fst f q j) = true
  | 0, j, h => absurd h (by show ¬ j < j + 0; omega)
  | q + 1, j, h => by
    unfold db_fst at h ⊢
    by_cases z : f j = true
    · rw [if_pos z]; exact z
    · rw [if_neg z] at h ⊢
      exact db_fst_hit q (j + 1) (by omega)
theorem s_addTask {N : Nat → Nat} {X Y : db_X} {sz cnt th tm la : Nat} (hN : bb_N N) (h : rr N X Y sz cnt th tm la) (p w d : Int32) : (bb_addTask N X p w d).1 = (mm_addTask N Y p w d).1 ∧ rr N (bb_addTask N X p w d).2 (mm_addTask N Y p w d).2 sz cnt th tm la := by
  have hn : N 0 < 2 ^ 31 := by have := hN.2.1; omega
  have hla := h.la
  have ew : bb_wf X p w d = mm_wf Y p w d := by unfold bb_wf mm_wf; rw [h.z.1]
  have ef : bb_free N X = mm_free N Y := by
    refine db_fst_congr _ _ (fun i _ hi => ?_)
    show decide (X 1 i 1 = 0) = decide (Y 6 0 i = 0)
    rw [h.t.t1 1 (by decide) (by decide) i (by omega)]
  unfold bb_addTask mm_addTask
  rw [ew, ef]
  by_cases q1 : mm_wf Y p w d = 0
  · rw [if_pos q1, if_pos q1]; exact ⟨rfl, h⟩
  · rw [if_neg q1, if_neg q1]
    by_cases q2 : mm_free N Y < N 0
    · rw [if_pos q2, if_pos q2]
      refine ⟨rfl, ?_⟩
      have hdead : Y 6 0 (mm_free N Y) = 0 := by
        have := db_fst_hit (f := fun j => decide (Y 6 0 j = 0)) (N 0) 0 (by rw [Nat.zero_add]; exact q2)
        exact of_decide_eq_true this
      generalize mm_free N Y = i at *
      have hnp : Y 17 0 i = 0 := by
        by_cases z : Y 17 0 i = 0
        · exact z
        · exact absurd hdead ((h.j i q2).1 z)
      have hV : ∃ p' w' d' : Nat, 0 < w' ∧ w' ≤ d' ∧ d' ≤ p' ∧ p' ≤ 20000 ∧ p = nI p' ∧ w = nI w' ∧ d = nI d' := by
        unfold mm_wf at q1
        rw [h.yla] at q1
        have a1 : ¬ w ≤ 0 := fun z => q1 (by rw [if_pos z])
        have a2 : ¬ d < w := fun z => q1 (by rw [if_neg a1, if_pos z])
        have a3 : ¬ p < d := fun z => q1 (by rw [if_neg a1, if_neg a2, if_pos z])
        have a4 : ¬ nI la < p := fun z => q1 (by rw [if_neg a1, if_neg a2, if_neg a3, if_pos z])
        have b1 : 0 < w := Int32.not_le.mp a1
        have b2 : w ≤ d := Int32.not_lt.mp a2
        have b3 : d ≤ p := Int32.not_lt.mp a3
        have b4 : p ≤ nI la := Int32.not_lt.mp a4
        have c1 : ¬ w < 0 := fun z => absurd (Int32.lt_trans b1 z) Int32.lt_irrefl
        have c2 : ¬ d < 0 := fun z => absurd (Int32.lt_of_le_of_lt b2 z) c1
        have c3 : ¬ p < 0 := fun z => absurd (Int32.lt_of_le_of_lt b3 z) c2
        obtain ⟨w', hw', rfl⟩ := nI_of c1
        obtain ⟨d', hd', rfl⟩ := nI_of c2
        obtain ⟨p', hp', rfl⟩ := nI_of c3
        rw [nI_leI (by omega) (by omega)] at b2 b3 b4
        have b1' : nI 0 < nI w' := by rw [nI_0]; exact b1
        rw [nI_ltI (by omega) (by omega)] at b1'
        exact ⟨p', w', d', b1', b2, b3, by omega, rfl, rfl, rfl⟩
      have hnow : X 0 0 6 = Y 0 0 5 := h.z.2.1
      -- point by point
      have xo : ∀ k j f, ¬ (k = 1 ∧ j = i) → bb_enter X i p w d (X 0 0 6) k j f = X k j f := by
        intro k j f z
        unfold bb_enter
        have e : ∀ f0 : Nat, ¬ (k = 1 ∧ j = i ∧ f = f0) := fun f0 z2 => z ⟨z2.1, z2.2.1⟩
        rw [up_o (e 11), up_o (e 10), up_o (e 9), up_o (e 8), up_o (e 7), up_o (e 6), up_o (e 5), up_o (e 4), up_o (e 3), up_o (e 2), up_o (e 1)]
      have yo : ∀ r j, ¬ j = i → mm_enter Y i p w d r 0 j = Y r 0 j := by
        intro r j z
        unfold mm_enter mm_e3 mm_e2 mm_e1
        simp only [db_up, z, and_false, if_false]
      have yk : ∀ r j, (r ≤ 5 ∨ (18 ≤ r ∧ r ≤ 20) ∨ 23 ≤ r) → mm_enter Y i p w d r 0 j = Y r 0 j := by
        intro r j z
        unfold mm_enter mm_e3 mm_e2 mm_e1
        rw [up_k (by omega), up_k (by omega), up_k (by omega), up_k (by omega), up_k (by omega), up_k (by omega), up_k (by omega), up_k (by omega), up_k (by omega), up_k (by omega), up_k (by omega), up_k (by omega), up_k (by omega), up_k (by omega)]
      have y6 : mm_enter Y i p w d 6 0 i = 1 := by simp [mm_enter, mm_e1, mm_e2, mm_e3, db_up]
      have y7 : mm_enter Y i p w d 7 0 i = p := by simp [mm_enter, mm_e1, mm_e2, mm_e3, db_up]
      have y8 : mm_enter Y i p w d 8 0 i = w := by simp [mm_enter, mm_e1, mm_e2, mm_e3, db_up]
      have y9 : mm_enter Y i p w d 9 0 i = d := by simp [mm_enter, mm_e1, mm_e2, mm_e3, db_up]
      have y10 : mm_enter Y i p w d 10 0 i = Y 0 0 5 := by simp [mm_enter, mm_e1, mm_e2, mm_e3, db_up]
      have y17 : mm_enter Y i p w d 17 0 i = 0 := by simp [mm_enter, mm_e1, mm_e2, mm_e3, db_up]
      have y21 : mm_enter Y i p w d 21 0 i = -1 := by simp [mm_enter, mm_e1, mm_e2, mm_e3, db_up]
      have y17' : ∀ j, mm_enter Y i p w d 17 0 j = Y 17 0 j := fun j => by
        by_cases z : j = i
        · subst z; rw [y17, hnp]
        · exact yo 17 j z
      have ht : rt1 N (bb_enter X i p w d (X 0 0 6)) (mm_enter Y i p w d) := by
        intro f h1 h2 j hj
        by_cases z : j = i
        · subst z
          have hs : f = 1 ∨ f = 2 ∨ f = 3 ∨ f = 4 ∨ f = 5 ∨ f = 6 ∨ f = 7 ∨ f = 8 ∨ f = 9 ∨ f = 10 ∨ f = 11 := by omega
          rcases hs with rfl | rfl | rfl | rfl | rfl | rfl | rfl | rfl | rfl | rfl | rfl <;> simp [bb_enter, mm_enter, mm_e1, mm_e2, mm_e3, db_up, hnow]
        · rw [xo 1 j f (fun y => z y.2), yo _ j z]; exact h.t.t1 f h1 h2 j hj
      have hJ : rr_J N (bb_enter X i p w d (X 0 0 6)) (mm_enter Y i p w d) := by
        intro j hj
        obtain ⟨a, b, c⟩ := h.j j hj
        rw [y17', xo 2 j 6 (fun y => by omega), xo 2 j 4 (fun y => by omega)]
        by_cases z : j = i
        · subst z
          exact ⟨fun y => absurd hnp y, b, fun y => absurd hnp y⟩
        · rw [yo 6 j z, yo 21 j z, yo 22 j z]; exact ⟨a, b, c⟩
      have h2 : rt2 N (bb_enter X i p w d (X 0 0 6)) (mm_enter Y i p w d) := by
        intro f hf j hj
        rw [xo 2 j f (fun y => by omega)]
        have hs : f = 0 ∨ (1 ≤ f ∧ f ≤ 3) := by omega
        rcases hs with rfl | hs
        · rw [y17']; exact h.t.t2 0 hf j hj
        · rw [yk (f + 17) j (by omega)]; exact h.t.t2 f hf j hj
      have hVf : mm_V N (mm_enter Y i p w d) := by
        intro j hj
        by_cases z : j = i
        · subst z
          rw [y6, y7, y8, y9]
          exact fun _ => hV
        · rw [yo 6 j z, yo 7 j z, yo 8 j z, yo 9 j z]; exact h.mV j hj
      have hN1 : ∀ s, s < sz → rr_N1 N (mm_enter Y i p w d) s := by
        intro s hs
        obtain ⟨t, k, b, g, g1, g2, g3, g4, g5, g6, g7, g8, g9, g10⟩ := h.s.2.1 s hs
        have z : ¬ t = i := fun z => g9 (by rw [z]; exact hdead)
        exact ⟨t, k, b, g, g1, g2, g3, g4, by rw [yk 25 s (by omega)]; exact g5, by rw [yk 26 s (by omega)]; exact g6, by rw [yk 27 s (by omega)]; exact g7, by rw [yk 28 s (by omega)]; exact g8, by rw [yo 6 t z]; exact g9, by rw [yo 8 t z]; exact g10⟩
      have hS : rr_S N (bb_enter X i p w d (X 0 0 6)) (mm_enter Y i p w d) sz := by
        obtain ⟨⟨π, hP⟩, -, h3⟩ := h.s
        refine ⟨⟨π, hP.fr (fun p f => ?_) (fun r s _ _ => yk r s (by omega))⟩, hN1, fun s s' a b c dd => ?_⟩
        · unfold bb_sec
          rw [xo 5 0 p (fun y => by omega), xo 12 _ f (fun y => by omega)]
        · unfold rr_ov at dd
          rw [yk 25 _ (by omega), yk 25 _ (by omega), yk 27 _ (by omega), yk 27 _ (by omega), yk 28 _ (by omega), yk 28 _ (by omega)] at dd
          rw [yk 26 _ (by omega), yk 26 _ (by omega)]
          exact h3 s s' a b c dd
      have hin : ∀ {j s u}, rr_in (mm_enter Y i p w d) j s u ↔ rr_in Y j s u := rr_in.fr (fun r s a b => yk r s (by omega))
      have hL : rr_L N (mm_enter Y i p w d) sz := by
        obtain ⟨l1, l2, l3, l4⟩ := h.l
        refine ⟨fun j hj => ?_, fun j s hj hs => ?_, fun k j hk hj => ?_, fun j k hj hk => ?_⟩
        · rw [y17', yk 20 j (by omega)]
          by_cases z : j = i
          · subst z; exact fun y => absurd hnp y
          · rw [yo 8 j z]; exact l1 j hj
        · rw [y17', yk 20 j (by omega), yk 27 s (by omega), yk 26 s (by omega), yk 23 _ (by omega), hin]; exact l2 j s hj hs
        · rw [y17', yk 20 j (by omega), yk 23 k (by omega)]
          intro e
          obtain ⟨a, s, b, c, dd⟩ := l3 k j hk hj e
          exact ⟨a, s, b, hin.mpr c, by rw [yk 26 s (by omega)]; exact dd⟩
        · rw [y17', yk 20 j (by omega)]
          intro hpp
          have z : ¬ j = i := fun z => hpp (by rw [z]; exact hnp)
          rw [yo 21 j z]
          intro e
          obtain ⟨s, b, c, dd⟩ := l4 j k hj hk hpp e
          exact ⟨s, b, hin.mpr c, by rw [yk 26 s (by omega)]; exact dd⟩
      have hD : rr_D N (mm_enter Y i p w d) th := by
        intro j hj
        rw [y17', yk 19 j (by omega)]
        by_cases z : j = i
        · subst z
          rw [y10, ← hnow, h.th.1]
          exact ⟨fun _ => ⟨th, rfl, by omega, by omega⟩, fun y => absurd hnp y⟩
        · rw [yo 6 j z, yo 10 j z]; exact h.d j hj
      have hbI : bb_I N cnt sz (bb_enter X i p w d (X 0 0 6)) := ((((((((((h.bI.up rfl).up rfl).up rfl).up rfl).up rfl).up rfl).up rfl).up rfl).up rfl).up rfl).up rfl
      have hmI : mm_I N sz (mm_enter Y i p w d) := by
        have a1 : mm_I N sz (mm_e2 (mm_e1 Y i p w d) i) := ((((h.mI.up rfl).up rfl).up rfl).up rfl).up rfl
        exact ((((((((a1.up rfl).up rfl).up rfl).up rfl).up rfl).up rfl).up rfl).up21 (Or.inl rfl)).up rfl
      show rr N (bb_enter X i p w d (X 0 0 6)) (mm_enter Y i p w d) sz cnt th tm la
      refine ⟨rr_T_of ht h2, h.hh.fr (fun k => xo 3 0 k (fun y => by omega)) (fun k => yk 23 k (by omega)), ⟨?_, ?_, ?_, ?_, ?_, fun j => ?_, fun j => ?_, fun j => ?_⟩, hbI, hmI, h.rw.fr (fun p => xo 5 0 p (fun y => by omega)), ?_, ?_, ?_, bb_V_of ht hVf, hJ, hS, hL, hD⟩
      · rw [xo 0 0 5 (fun y => by omega), yk 0 4 (by omega)]; exact h.z.1
      · rw [xo 0 0 6 (fun y => by omega), yk 0 5 (by omega)]; exact h.z.2.1
      · rw [xo 0 0 7 (fun y => by omega), yk 0 35 (by omega)]; exact h.z.2.2.1
      · rw [xo 6 0 2 (fun y => by omega), yk 0 30 (by omega)]; exact h.z.2.2.2.1
      · rw [xo 9 0 1 (fun y => by omega), yk 0 34 (by omega)]; exact h.z.2.2.2.2.1
      · rw [xo 7 0 j (fun y => by omega), yk 31 j (by omega)]; exact h.z.2.2.2.2.2.1 j
      · rw [xo 8 0 j (fun y => by omega), yk 32 j (by omega)]; exact h.z.2.2.2.2.2.2.1 j
      · rw [xo 10 0 j (fun y => by omega), yk 33 j (by omega)]; exact h.z.2.2.2.2.2.2.2 j
      · rw [xo 0 0 5 (fun y => by omega)]; exact h.la
      · rw [xo 0 0 6 (fun y => by omega), xo 9 0 1 (fun y => by omega)]; exact h.th
      · rw [xo 6 0 2 (fun y => by omega)]; exact h.tm
    · rw [if_neg q2, if_neg q2]; exact ⟨rfl, h⟩
