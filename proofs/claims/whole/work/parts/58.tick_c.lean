/-! a tick, whole -/
theorem rr_D.mono {N : Nat → Nat} {Y Y' : db_X} {th : Nat} (h : rr_D N Y th) (hy : ∀ r i, (r = 6 ∨ r = 10 ∨ r = 19) → Y' r 0 i = Y r 0 i) (hp : ∀ i, ¬ Y' 17 0 i = 0 → ¬ Y 17 0 i = 0) : rr_D N Y' th := by
  intro i hi
  obtain ⟨a, b⟩ := h i hi
  rw [hy 6 i (by omega), hy 10 i (by omega), hy 19 i (by omega)]
  exact ⟨a, fun z => b (hp i z)⟩
theorem bb_V_of {N : Nat → Nat} {X Y : db_X} (ht : rt1 N X Y) (hV : mm_V N Y) : bb_V N X := by
  intro i hi
  rw [ht 1 (by decide) (by decide) i hi, ht 2 (by decide) (by decide) i hi, ht 3 (by decide) (by decide) i hi, ht 4 (by decide) (by decide) i hi]
  exact hV i hi
def bb_SP (k _f : Nat) : Bool := k == 0 || k == 1 || k == 2 || k == 3 || k == 6 || k == 7 || k == 8 || k == 9 || k == 10
theorem bb_pass_fr {N : Nat → Nat} {X : db_X} {sz th : Nat} : bb_fr bb_SP (bb_pass N X sz th).2 X := by
  have h1 : ∀ (Y : db_X) (r : Int32), bb_fr bb_SP (bb_pt3 Y r) Y := by
    intro Y r
    unfold bb_pt3
    split
    · exact (bb_fr.up rfl).tr (bb_fr.up rfl)
    · exact bb_fr.up rfl
  have h2 : ∀ (Y : db_X) (r : Int32), bb_fr bb_SP (bb_hn Y th r) Y := fun Y r => (bb_fr.up rfl).tr (bb_fr.up rfl)
  show bb_fr bb_SP (bb_pt3 (bb_hn (bb_cw _ (bb_run1 N (bb_pt1 N X) sz).2 (N 0)) th _) _) X
  exact (h1 _ _).tr ((h2 _ _).tr (((bb_cw_fr _).mono (by intro k f h; simp [bb_SP] at *; omega)).tr ((bb_run1_fr.mono (by intro k f h; simp [bb_SP] at *; omega)).tr (bb_pt1_fr.mono (by intro k f h; simp [bb_SP] at *; omega)))))
theorem bb_Rw.fr {cnt : Nat} {X X' : db_X} (h : bb_Rw cnt X) (hx : ∀ p, X' 5 0 p = X 5 0 p) : bb_Rw cnt X' := fun p => by rw [hx]; exact h p
theorem pass_step {N : Nat → Nat} {X Y : db_X} {sz cnt th tm la : Nat} (hN : bb_N N) (h : rr N X Y sz cnt th tm la) (hlt : th < la) : ∃ v, v ≤ 40 ∧ rr N (bb_pass N X sz th).2 (mm_turn N Y sz th).2 sz cnt (th + 1) (tm + v) la ∧ (bb_pass N X sz th).1 = (mm_tr N Y sz).1 ∧ (mm_turn N Y sz th).1 = (if v = 0 then 0 else 1) ∧ (mm_turn N Y sz th).2 33 0 (th % 100) = (mm_tr N Y sz).1 := by
  have hn := hN.2.1
  have hn1 := hN.2.2.1
  have hla := h.la
  have hsz : sz ≤ N 2 := h.mI.2.2.2.1
  have re0 : re N X Y sz := ⟨⟨h.t.t2, h.hh, h.mI.1, h.mI.2.1, h.j⟩, h.t.t1, h.z.2.1, h.s, h.l⟩
  have M0 : rr_M X Y := ⟨h.z.2.2.2.1, h.z.2.2.2.2.2.1, h.z.2.2.2.2.2.2.1⟩
  obtain ⟨ra, Ma, na, pa, v, hv, tva, ca⟩ := late_all hN re0 M0 h.tm.1 (N 0) (Nat.le_refl _)
  have fa : bb_fr (fun k f => mm_SG k f || k == 31 || k == 32 || k == 13 || (k == 0 && f == 30)) (mm_miss N Y (N 0)).2 Y := mm_miss_fr _
  have fax := bb_late_fr (N := N) (X := X) (N 0)
  have hY5 : Y 0 0 5 = nI th := by rw [← h.z.2.1]; exact h.th.1
  have ea5 : (mm_miss N Y (N 0)).2 0 0 5 = nI th := (fa 0 0 5 rfl).trans hY5
  have Va : mm_V N (mm_miss N Y (N 0)).2 := h.mV.fr (fun r i h1 h2 => fa r 0 i (by simp [mm_SG]; omega))
  have Da : rr_D N (mm_miss N Y (N 0)).2 th := h.d.mono (fun r i hr => fa r 0 i (by simp [mm_SG]; omega)) pa
  have nda : ∀ i, i < N 0 → ¬ (mm_miss N Y (N 0)).2 17 0 i = 0 → ¬ (mm_miss N Y (N 0)).2 19 0 i = (mm_miss N Y (N 0)).2 0 0 5 := by
    intro i hi z
    rw [fa 19 0 i rfl, fa 0 0 5 rfl]
    exact na i hi z
  have npa : ∀ i, i < N 0 → (mm_miss N Y (N 0)).2 10 0 i = (mm_miss N Y (N 0)).2 0 0 5 → (mm_miss N Y (N 0)).2 17 0 i = 0 := by
    intro i hi e
    by_cases z : (mm_miss N Y (N 0)).2 17 0 i = 0
    · exact z
    · obtain ⟨d, x, e1, e2, h1, h2, h3⟩ := (Da i hi).2 z
      rw [e2, ea5, nI_eq (by omega) (by omega)] at e
      exact absurd (by rw [e1, ea5, show d = th by omega]) (nda i hi z)
  have rb := rels_all hN ra Va npa (N 0) (Nat.le_refl _)
  have Db := rels_D hN Va ea5 (by omega) Da nda (fun i hi => (ra.1.2.2.2.2 i hi).1)
  have fb := mm_rls_fr (X := (mm_miss N Y (N 0)).2) (N 0)
  have epb : bb_rels (bb_late N X (N 0)) (N 0) = bb_pt1 N X := rfl
  have epm : mm_rls (mm_miss N Y (N 0)).2 (N 0) = mm_p1 N Y := rfl
  rw [epb, epm] at rb
  rw [epm] at Db fb
  have Vb : mm_V N (mm_p1 N Y) := Va.fr (fun r i h1 h2 => fb r 0 i (by simp; omega))
  obtain ⟨r, Yc, etk, er, fc, Lc, hcase⟩ := run_step hN hsz (N 0) (bb_pt1 N X) (mm_p1 N Y) 60 rb.1 rb.2.2.2.1 rb.2.2.2.2 (db_cn_le _) (by
    have h1 := db_cn_le (f := mm_rdy N (mm_p1 N Y)) (N 0)
    have h2 := db_cn_le (f := mm_fre (mm_p1 N Y)) (N 1)
    unfold mm_mea
    omega)
  have etr : mm_tr N Y sz = (r, Yc) := etk
  have er1 : (bb_run1 N (bb_pt1 N X) sz).1 = r := er
  have h5c : bb_pt1 N X 0 0 6 = Yc 0 0 5 := rb.2.2.1.trans (fc 0 0 5 rfl).symm
  have key : rc N (bb_run1 N (bb_pt1 N X) sz).2 (mm_t2 N Yc sz r) ∧ rt1 N (bb_run1 N (bb_pt1 N X) sz).2 (mm_t2 N Yc sz r) ∧ rr_L N (mm_t2 N Yc sz r) sz ∧ (∀ j, ¬ mm_t2 N Yc sz r 17 0 j = 0 → ¬ Yc 17 0 j = 0) ∧ (∀ k s, (k = 6 ∨ k = 7 ∨ k = 8 ∨ k = 9 ∨ k = 10 ∨ k = 19 ∨ (25 ≤ k ∧ k ≤ 28) ∨ 30 ≤ k) → mm_t2 N Yc sz r k 0 s = Yc k 0 s) ∧ (∀ f, ¬ f = 35 → mm_t2 N Yc sz r 0 0 f = Yc 0 0 f) ∧ mm_t2 N Yc sz r 0 0 35 = (if r = -1 then Yc 0 0 35 + 1 else Yc 0 0 35) := by
    rcases hcase with ⟨e1, c1, c2⟩ | ⟨i, X1, hi, e1, e2, c1, c2, c3, c4, c5⟩
    · have et : mm_t2 N Yc sz r = mm_idle Yc := if_pos e1
      have fi : ∀ k s, ¬ k = 0 → mm_idle Yc k 0 s = Yc k 0 s := fun k s z => up_k z
      rw [et]
      refine ⟨c1.fr (fun _ _ _ => rfl) (fun _ => rfl) (fun k i hk => fi k i (by omega)), rb.2.1.fr (fun j f => c2 1 j f rfl) (fun k j h1 h2 => (fi k j (by omega)).trans (fc k 0 j (by simp [mm_SK]; omega))), Lc.fr (fun k i hk => fi k i (by omega)), fun j z => by rw [fi 17 j (by decide)] at z; exact z, fun k s hk => fi k s (by omega), fun f hf => up_f hf, ?_⟩
      rw [if_pos e1]
      unfold mm_idle
      rw [up_at]
    · have hne : ¬ nI i = -1 := nI_ne1 (by omega)
      have et : mm_t2 N Yc sz r = mm_wk N Yc sz i := by
        unfold mm_t2
        rw [e1, if_neg hne, nI_clamp (by omega)]
      have e3 : (bb_run1 N (bb_pt1 N X) sz).2 = bb_work N X1 sz i := e2
      have hS1 : rr_S N X1 Yc sz := rb.2.2.2.1.fr (bb_sec_fr c5 (fun _ => rfl) (fun _ => rfl)) (fun k s hk => fc k 0 s (by simp [mm_SK]; omega))
      have ht1 : rt1 N X1 Yc := rb.2.1.fr (fun j f => c5 1 j f rfl) (fun k j h1 h2 => fc k 0 j (by simp [mm_SK]; omega))
      obtain ⟨w1, w2, w3, w4⟩ := work_all hN hi hsz c1 hS1 Lc ht1 c2 c3 c4 ((c5 0 0 6 rfl).trans h5c)
      rw [et, e3]
      refine ⟨w1, w2, w3, w4, fun k s hk => mm_wk_fr k 0 s (by simp; omega), fun f _ => mm_wk_fr 0 0 f rfl, ?_⟩
      rw [e1, if_neg hne]
      exact mm_wk_fr 0 0 35 rfl
  obtain ⟨k1, k2, k3, k4, k5, k6, k7⟩ := key
  obtain ⟨m1, m2⟩ := cw_all (r := r) hN k1 k2 (N 0) (Nat.le_refl _)
  have eX : (bb_pass N X sz th).2 = bb_pt3 (bb_hn (bb_cw r (bb_run1 N (bb_pt1 N X) sz).2 (N 0)) th r) r := by
    show bb_pt2 N (bb_run1 N (bb_pt1 N X) sz).2 th (bb_run1 N (bb_pt1 N X) sz).1 = _
    rw [er1]; rfl
  have eY : (mm_turn N Y sz th).2 = mm_tt1 (mm_ct N r (mm_t2 N Yc sz r) (N 0)) th r := by
    show mm_tt1 (mm_ct N (mm_tr N Y sz).1 (mm_t2 N (mm_tr N Y sz).2 sz (mm_tr N Y sz).1) (N 0)) th (mm_tr N Y sz).1 = _
    rw [etr]
  have bIf := h.bI.pass hN (th := th)
  have mIf := h.mI.turn hN (th := th)
  have fX : bb_fr bb_SP (bb_pass N X sz th).2 X := bb_pass_fr
  have p6 : (bb_pass N X sz th).2 6 0 2 = nI (tm + v) := bb_pass_6.trans tva
  have p9 : (bb_pass N X sz th).2 9 0 1 = nI (th + 1) := by rw [bb_pass_9, h.th.2.1, nI_1]
  have q34 : (mm_turn N Y sz th).2 0 0 34 = nI (th + 1) := by rw [mm_turn_34, h.yth, nI_1]
  have q30 : (mm_turn N Y sz th).2 0 0 30 = (mm_miss N Y (N 0)).2 0 0 30 := mm_turn_30
  refine ⟨v, by omega, ?_, ?_, ca, ?_⟩
  · have hct := mm_ct_fr (N := N) (r := r) (X := mm_t2 N Yc sz r) (N 0)
    have hcw := bb_cw_fr (r := r) (X := (bb_run1 N (bb_pt1 N X) sz).2) (N 0)
    have hrun := bb_run1_fr (N := N) (X := bb_pt1 N X) (sz := sz)
    have hpt := bb_pt1_fr (N := N) (X := X)
    -- the class's end
    have xs : ∀ k i f, ¬ k = 0 → ¬ k = 9 → ¬ k = 10 → (bb_pass N X sz th).2 k i f = bb_cw r (bb_run1 N (bb_pt1 N X) sz).2 (N 0) k i f := by
      intro k i f h0 h9 h10
      rw [eX]
      unfold bb_pt3 bb_now bb_hn bb_hn2
      rw [up_k h0]
      split
      · unfold bb_idle
        rw [up_k h0, up_k h9, up_k h10]
      · rw [up_k h9, up_k h10]
    have x6 : (bb_pass N X sz th).2 0 0 6 = nI (th + 1) := by
      have hold : bb_hn (bb_cw r (bb_run1 N (bb_pt1 N X) sz).2 (N 0)) th r 0 0 6 = nI th := by
        unfold bb_hn bb_hn2
        rw [up_k (by decide), up_k (by decide), hcw 0 0 6 rfl, hrun 0 0 6 rfl, hpt 0 0 6 rfl]
        exact h.th.1
      rw [eX]
      unfold bb_pt3 bb_now
      rw [up_at]
      split
      · unfold bb_idle
        rw [up_f (by decide), hold, nI_1]
      · rw [hold, nI_1]
    have x0 : ∀ f, ¬ f = 6 → ¬ f = 7 → (bb_pass N X sz th).2 0 0 f = X 0 0 f := by
      intro f h6 h7
      have hold : bb_hn (bb_cw r (bb_run1 N (bb_pt1 N X) sz).2 (N 0)) th r 0 0 f = X 0 0 f := by
        unfold bb_hn bb_hn2
        rw [up_k (by decide), up_k (by decide), hcw 0 0 f rfl, hrun 0 0 f rfl, hpt 0 0 f rfl]
      rw [eX]
      unfold bb_pt3 bb_now
      rw [up_f h6]
      split
      · unfold bb_idle
        rw [up_f h7, hold]
      · exact hold
    have x7 : (bb_pass N X sz th).2 0 0 7 = if r = -1 then X 0 0 7 + 1 else X 0 0 7 := by
      have hold : bb_hn (bb_cw r (bb_run1 N (bb_pt1 N X) sz).2 (N 0)) th r 0 0 7 = X 0 0 7 := by
        unfold bb_hn bb_hn2
        rw [up_k (by decide), up_k (by decide), hcw 0 0 7 rfl, hrun 0 0 7 rfl, hpt 0 0 7 rfl]
      rw [eX]
      unfold bb_pt3 bb_now
      rw [up_f (by decide)]
      split
      · unfold bb_idle
        rw [up_at, hold]
      · exact hold
    have x10 : ∀ j, (bb_pass N X sz th).2 10 0 j = if j = th % 100 then r else X 10 0 j := by
      intro j
      have hold : bb_hn (bb_cw r (bb_run1 N (bb_pt1 N X) sz).2 (N 0)) th r 10 0 j = if j = th % 100 then r else X 10 0 j := by
        unfold bb_hn bb_hn2
        rw [up_k (by decide)]
        by_cases z : j = th % 100
        · rw [if_pos z, z, up_at]
        · rw [if_neg z, up_f z, hcw 10 0 j rfl, hrun 10 0 j rfl, hpt 10 0 j rfl]
      rw [eX]
      unfold bb_pt3 bb_now
      rw [up_k (by decide)]
      split
      · unfold bb_idle
        rw [up_k (by decide), hold]
      · exact hold
    -- the reference's end
    have ys : ∀ k s, ¬ k = 0 → ¬ k = 33 → (mm_turn N Y sz th).2 k 0 s = mm_ct N r (mm_t2 N Yc sz r) (N 0) k 0 s := by
      intro k s h0 h33
      rw [eY]
      unfold mm_tt1 mm_tt2 mm_tt3
      rw [up_k h0, up_k h0, up_k h33]
    have y0 : ∀ f, ¬ f = 5 → ¬ f = 34 → (mm_turn N Y sz th).2 0 0 f = mm_t2 N Yc sz r 0 0 f := by
      intro f h5 h34
      rw [eY]
      unfold mm_tt1 mm_tt2 mm_tt3
      rw [up_f h5, up_f h34, up_k (by decide), hct 0 0 f rfl]
    have yc0 : ∀ f, ¬ f = 30 → Yc 0 0 f = Y 0 0 f := fun f hf => (fc 0 0 f rfl).trans ((fb 0 0 f rfl).trans (fa 0 0 f (by simp [mm_SG]; omega)))
    have y5 : (mm_turn N Y sz th).2 0 0 5 = nI (th + 1) := by
      rw [eY]
      unfold mm_tt1 mm_tt2 mm_tt3
      rw [up_at, up_f (by decide), up_k (by decide), hct 0 0 5 rfl, k6 5 (by decide), yc0 5 (by decide), hY5, nI_1]
    have y33 : ∀ j, (mm_turn N Y sz th).2 33 0 j = if j = th % 100 then r else Y 33 0 j := by
      intro j
      rw [eY]
      unfold mm_tt1 mm_tt2 mm_tt3
      rw [up_k (by decide), up_k (by decide)]
      by_cases z : j = th % 100
      · rw [if_pos z, z, up_at]
      · rw [if_neg z, up_f z, hct 33 0 j rfl, k5 33 j (by omega), fc 33 0 j rfl, fb 33 0 j rfl, fa 33 0 j rfl]
    have yst : ∀ k s, (k = 6 ∨ k = 7 ∨ k = 8 ∨ k = 9 ∨ (25 ≤ k ∧ k ≤ 28)) → (mm_turn N Y sz th).2 k 0 s = Y k 0 s := by
      intro k s hk
      rw [ys k s (by omega) (by omega), hct k 0 s (by simp; omega), k5 k s (by omega), fc k 0 s (by simp [mm_SK]; omega), fb k 0 s (by simp; omega), fa k 0 s (by simp [mm_SG]; omega)]
    have m1f : rc N (bb_pass N X sz th).2 (mm_turn N Y sz th).2 := m1.fr (fun i f _ => xs 2 i f (by decide) (by decide) (by decide)) (fun k => xs 3 0 k (by decide) (by decide) (by decide)) (fun k i hk => ys k i (by omega) (by omega))
    have m2f : rt1 N (bb_pass N X sz th).2 (mm_turn N Y sz th).2 := m2.fr (fun i f => xs 1 i f (by decide) (by decide) (by decide)) (fun k i h1 h2 => ys k i (by omega) (by omega))
    have Vf : mm_V N (mm_turn N Y sz th).2 := h.mV.fr (fun k i h1 h2 => yst k i (by omega))
    have ym : ∀ k s, (k = 31 ∨ k = 32) → (mm_turn N Y sz th).2 k 0 s = (mm_miss N Y (N 0)).2 k 0 s := by
      intro k s hk
      rw [ys k s (by omega) (by omega), hct k 0 s (by simp; omega), k5 k s (by omega), fc k 0 s (by simp [mm_SK]; omega), fb k 0 s (by simp; omega)]
    have xm : ∀ k s, (k = 7 ∨ k = 8) → (bb_pass N X sz th).2 k 0 s = bb_late N X (N 0) k 0 s := by
      intro k s hk
      rw [xs k 0 s (by omega) (by omega) (by omega), hcw k 0 s (by simp; omega), hrun k 0 s (by simp; omega)]
      exact bb_rels_fr _ k 0 s (by simp; omega)
    refine ⟨rr_T_of m2f m1f.1, m1f.2.1, ⟨?_, ?_, ?_, ?_, ?_, fun j => ?_, fun j => ?_, fun j => ?_⟩, bIf, mIf, h.rw.fr (fun p => fX 5 0 p rfl), ⟨(x0 5 (by decide) (by decide)).trans h.la.1, h.la.2⟩, ⟨x6, p9, by omega⟩, ⟨p6, by have := h.tm.2; omega⟩, bb_V_of m2f Vf, m1f.2.2.2.2, h.s.fr (bb_sec_fr fX (fun _ => rfl) (fun _ => rfl)) (fun k s hk => yst k s (by omega)), ?_, ?_⟩
    · rw [x0 5 (by decide) (by decide), y0 4 (by decide) (by decide), k6 4 (by decide), yc0 4 (by decide)]; exact h.z.1
    · rw [x6, y5]
    · rw [x7, y0 35 (by decide) (by decide), k7, yc0 35 (by decide), h.z.2.2.1]
    · rw [p6, q30, ← Ma.1, tva]
    · rw [p9, q34]
    · rw [xm 7 j (by omega), ym 31 j (by omega)]; exact Ma.2.1 j
    · rw [xm 8 j (by omega), ym 32 j (by omega)]; exact Ma.2.2 j
    · rw [x10, y33, h.z.2.2.2.2.2.2.2]
    · exact k3.fr (fun k i hk => (ys k i (by omega) (by omega)).trans (hct k 0 i (by simp; omega)))
    · refine Db.mono (fun k i hk => ?_) (fun i z => ?_)
      · rw [ys k i (by omega) (by omega), hct k 0 i (by simp; omega), k5 k i (by omega), fc k 0 i (by simp [mm_SK]; omega)]
      · rw [ys 17 i (by decide) (by decide), hct 17 0 i rfl] at z
        have := k4 i z
        rw [fc 17 0 i rfl] at this
        exact this
  · show (bb_run1 N (bb_pt1 N X) sz).1 = _
    rw [er1, etr]
  · rw [eY, etr]
    unfold mm_tt1 mm_tt2 mm_tt3
    rw [up_k (by decide), up_k (by decide), up_at]
theorem s_tick {N : Nat → Nat} {X Y : db_X} {sz cnt th tm la : Nat} (hN : bb_N N) (h : rr N X Y sz cnt th tm la) : (bb_tick N X sz th).1 = (mm_tick N Y sz th).1 ∧ ∃ th' tm', rr N (bb_tick N X sz th).2 (mm_tick N Y sz th).2 sz cnt th' tm' la := by
  have hla := h.la
  have hth := h.th
  unfold bb_tick mm_tick
  have e5 : Y 0 0 5 = nI th := by rw [← h.z.2.1]; exact hth.1
  rw [hla.1, hth.1, e5, h.yla]
  by_cases q : th = la
  · rw [if_pos (by rw [q]; exact Int32.le_refl _), if_pos (by rw [q])]
    exact ⟨rfl, th, tm, h⟩
  · rw [if_neg (nI_ge (by omega) (by omega)), if_neg (fun z => q ((nI_eq (by omega) (by omega)).mp z))]
    obtain ⟨v, -, a, b, -, c⟩ := pass_step hN h (by omega)
    exact ⟨b.trans c.symm, th + 1, tm + v, a⟩
theorem rn_step {N : Nat → Nat} {sz cnt la tm0 th0 : Nat} (hN : bb_N N) : ∀ (q u : Nat) (X Y : db_X) (a : Int32) (tm : Nat), rr N X Y sz cnt (th0 + u) tm la → tm0 ≤ tm → (a = if tm = tm0 then 0 else 1) → (bb_rn N sz (nI tm0) th0 q u X).1 = (mm_rn N sz th0 q u a Y).1 ∧ ∃ th' tm', rr N (bb_rn N sz (nI tm0) th0 q u X).2 (mm_rn N sz th0 q u a Y).2 sz cnt th' tm' la
  | 0, u, X, Y, a, tm, h, _, _ => ⟨rfl, th0 + u, tm, h⟩
  | q + 1, u, X, Y, a, tm, h, h1, ha => by
    have hla := h.la
    have hth := h.th
    have htb := h.tmb
    unfold bb_rn mm_rn
    have e5 : Y 0 0 5 = nI (th0 + u) := by rw [← h.z.2.1]; exact hth.1
    rw [hla.1, hth.1, e5, h.yla, h.tm.1]
    by_cases z : th0 + u = la
    · rw [if_pos (by rw [z]; exact Int32.le_refl _), if_pos (by rw [z]; exact Int32.le_refl _)]
      exact ⟨rfl, th0 + u, tm, h⟩
    · rw [if_neg (nI_ge (by omega) (by omega)), if_neg (nI_ge (by omega) (by omega))]
      by_cases w : tm = tm0
      · rw [if_pos (by rw [w]), if_pos (by rw [ha, if_pos w])]
        obtain ⟨v, -, b, -, c, -⟩ := pass_step hN h (by omega)
        refine rn_step hN q (u + 1) _ _ _ (tm + v) b (by omega) ?_
        rw [c]
        by_cases y : v = 0
        · rw [if_pos y, if_pos (by omega)]
        · rw [if_neg y, if_neg (by omega)]
      · rw [if_neg (fun y => w ((nI_eq (by omega) (by omega)).mp y)), if_neg (by rw [ha, if_neg w]; decide)]
        exact ⟨rfl, th0 + u, tm, h⟩
theorem s_run {N : Nat → Nat} {X Y : db_X} {sz cnt th tm la : Nat} (hN : bb_N N) (h : rr N X Y sz cnt th tm la) (n : Int32) : (bb_runC N X sz th n).1 = (mm_run N Y sz th n).1 ∧ ∃ th' tm', rr N (bb_runC N X sz th n).2 (mm_run N Y sz th n).2 sz cnt th' tm' la := by
  unfold bb_runC mm_run
  by_cases q1 : n < 0
  · rw [if_pos q1, if_pos q1]; exact ⟨rfl, th, tm, h⟩
  · rw [if_neg q1, if_neg q1]
    by_cases q2 : 2000 < n
    · rw [if_pos q2, if_pos q2]; exact ⟨rfl, th, tm, h⟩
    · rw [if_neg q2, if_neg q2, h.tm.1]
      obtain ⟨a, b⟩ := rn_step (th0 := th) (tm0 := tm) hN n.toNatClampNeg 0 X Y 0 tm h (Nat.le_refl _) (by rw [if_pos rfl])
      exact ⟨congrArg nI a, b⟩
