theorem bb_rowup {a j : Nat} : va_up (fun p => if p < j then some (a + 2 + 2 * p) else none) j (some (a + 2 + 2 * j)) = (fun p => if p < j + 1 then some (a + 2 + 2 * p) else none) := by
  funext p
  unfold va_up
  by_cases q1 : p = j
  · subst q1
    simp
  · by_cases q2 : p < j
    · simp [q1, q2, Nat.lt_succ_of_lt q2]
    · simp [q1, q2, show ¬ p < j + 1 by omega]
theorem bb_famS {P : Nat → Prop} {j : Nat} (h : ∀ i, i < j → P i) (h1 : P j) : ∀ i, i < j + 1 → P i := by
  intro i hi
  by_cases q : i = j
  · rw [q]; exact h1
  · exact h i (by omega)
set_option maxHeartbeats 4000000 in
set_option maxRecDepth 100000 in
theorem n_X6_init (l : Launch) (Γ : db_G) (a : Nat) (h : db_Mem) (t lk se lg la0 : Int32) (n nl ns ng la : Nat) (e1 : bb_near t 1 40 = n) (e2 : bb_near lk 0 16 = nl) (e3 : bb_near se 0 120 = ns) (e4 : bb_near lg 0 100 = ng) (e5 : bb_near la0 1 20000 = la) (ha : h a = some (.inr (6, [.null, .null, .null, .null, .null, .int 0, .int 0, .int 0]))) : db_N l Γ yX6_init cX6_init 7 none (db_rc 4 120 89 1243) [.ref a, .int t, .int lk, .int se, .int lg, .int la0] h (a + 1) (fun v h' _ => v = none ∧ ∃ L : Nat → Nat → Nat, L 0 0 = a ∧ db_R L (bb_ok n 0) (bb_cel Γ (bb_mkN n nl ns ng) L) (bb_X0 la) h') := by
  have hn40 : n ≤ 40 := by rw [← e1]; exact (bb_near_in (by decide)).2
  have hnl : nl ≤ 16 := by rw [← e2]; exact (bb_near_in (by decide)).2
  have hns : ns ≤ 120 := by rw [← e3]; exact (bb_near_in (by decide)).2
  have hng : ng ≤ 100 := by rw [← e4]; exact (bb_near_in (by decide)).2
  refine db_introN (by decide +kernel) (Nat.le_of_ble_eq_true rfl) ?_
  intro p e s m args below meth c A Q ls hC hnm hz hW hl hret hQ
  have hC : db_Cx p s m args meth c Γ RX6 cX6_init 7 none := hC
  obtain ⟨hx, hb, hml, hr, hlocks, hown, hts, hK⟩ := id hC
  have hin2 : meth.name = "<init>" := hnm
  have hl : lv_has ls 7 [(0, .ref a), (1, .int t), (2, .int lk), (3, .int se), (4, .int lg), (5, .int la0)] := hl
  refine lv_aload_n hx hb dX6_init_0 rfl (lv_at hl 0 rfl) ?_
  refine db_objI hC hl.1 wd_16 wd_17 wo_code (by decide) (Nat.le_of_ble_eq_true rfl) dX6_init_1 ?_
  refine lv_aload_n hx hb dX6_init_4 rfl (lv_at hl 0 rfl) ?_
  refine lv_iload_n hx hb dX6_init_5 rfl (lv_at hl 1 rfl) ?_
  refine lv_iconst (v := 1) hx hb dX6_init_6 (by decide) ?_
  refine lv_bipush (v := 40) hx hb dX6_init_7 (by decide) ?_
  refine db_cSO (As := [.int t, .int 1, .int 40]) (rest := [.ref a]) hC hW hz (n_X6_nearest l Γ _ _ t 1 40 (by decide) (by decide)) (cw_X6_nearest (Nat.le_of_ble_eq_true rfl) (Nat.le_of_ble_eq_true rfl)) wd_19 wd_20 rfl hl.1 rfl (Nat.le_of_ble_eq_true rfl) dX6_init_9 ⟨by show 0 + 0 ≤ 89; omega, by show 0 + 0 ≤ 1243; omega⟩ (fun v9 h9 H locs hP9 hW => ?_)
  obtain ⟨rfl, e9, hz⟩ := hP9
  rw [e9] at hW
  refine W.widen (k := 0) (n := 0) (Nat.le_refl _) (Nat.le_refl _) ?_
  refine W.eq (g2 := F0 m 12 ls [.int (nI n), .ref a]) (by rw [e1]; rfl) ?_
  refine db_newQ hx hb hts hown hK hW (t0 := 2) wd_28 hK.2.2.1 rfl (k := n) rfl (by omega) (by show 0 + 1 ≤ 89; omega) (by show 0 + n ≤ 1243; omega) dX6_init_12 hz (fun H hW hno hz => ?_)
  have hz : H.size = a + 2 := by omega
  obtain ⟨h1, eh1⟩ : ∃ w, w = db_set h (a + 1) (.inl (Γ.2 2, n, .inr (.inr (.inr (.inr (fun _ => none)))))) := ⟨_, rfl⟩
  rw [← eh1] at hW
  have f1 : h1 (a + 1) = some (.inl (Γ.2 2, n, .inr (.inr (.inr (.inr (fun _ => none)))))) := by rw [eh1]; exact db_ss
  have f1_1 : h1 a = some (.inr (6, [.null, .null, .null, .null, .null, .int 0, .int 0, .int 0])) := by rw [eh1]; exact (db_sn (by omega)).trans ha
  refine db_putFS hx hb hts hown hK hW f1_1 db_c6 0 (by decide) (hts _ wd_172) rfl hin2 rfl (v := .ref (a + 1)) rfl rfl (Nat.le_of_ble_eq_true rfl) dX6_init_15 (fun H locs hz1 hW => ?_)
  have hz := hz1.trans hz
  have hW : db_W Γ A s.heap (db_set h1 a (.inr (6, [.ref (a + 1), .null, .null, .null, .null, .int 0, .int 0, .int 0]))) H locs := hW
  obtain ⟨h2, eh2⟩ : ∃ w, w = db_set h1 a (.inr (6, [.ref (a + 1), .null, .null, .null, .null, .int 0, .int 0, .int 0])) := ⟨_, rfl⟩
  rw [← eh2] at hW
  have f2 : h2 a = some (.inr (6, [.ref (a + 1), .null, .null, .null, .null, .int 0, .int 0, .int 0])) := by rw [eh2]; exact db_ss
  have f2_1 : h2 (a + 1) = some (.inl (Γ.2 2, n, .inr (.inr (.inr (.inr (fun _ => none)))))) := by rw [eh2]; exact (db_sn (by omega)).trans f1
  refine lv_iconst (v := 0) hx hb dX6_init_18 (by decide) ?_
  refine lv_istore (lv' := [(6, .int 0), (0, .ref a), (1, .int t), (2, .int lk), (3, .int se), (4, .int lg), (5, .int la0)]) hx hb dX6_init_19 hl (by decide) rfl (fun ls hl => ?_)
  have K21 : ∀ (q : Nat) (j : Nat) (hq : n + 1 - j ≤ q) (hj0 : j ≤ n) (h : db_Mem) (fb1 : h a = some (.inr (6, [.ref (a + 1), .null, .null, .null, .null, .int 0, .int 0, .int 0]))) (fb2 : h (a + 1) = some (.inl (Γ.2 2, n, .inr (.inr (.inr (.inr (fun p => if p < j then some (a + 2 + 2 * p) else none))))))) (fT : ∀ i, i < j → h (a + 2 + 2 * i) = some (.inr (5, [.ref (a + 3 + 2 * i), .int 0, .int 0, .int 0, .int 0, .int 0, .int 0, .int 0, .int 0, .int 0, .int 0, .int 0]))) (fJ : ∀ i, i < j → h (a + 3 + 2 * i) = some (.inr (0, [.int 0, .int 0, .int 0, .int 0, .int (-1), .int 0, .int 0]))) (H : Heap) (locs : List Loc) (hz : H.size = a + 2 + 2 * j) (hW : db_W Γ A s.heap h H locs) (ls : Array Slot) (hl : lv_has ls 7 [(0, .ref a), (1, .int t), (2, .int lk), (3, .int se), (4, .int lg), (5, .int la0), (6, .int (nI j))]), W p l e (db_rc 4 120 89 1243) s m args below meth c H locs (1 + 2 * j) (n + 19 * j) Q (F0 m 21 ls []) := by
    intro q
    induction q with
    | zero =>
      intro j hq hj0
      exact absurd hq (by omega)
    | succ q ih =>
      intro j hq hj0 h fb1 fb2 fT fJ H locs hz hW ls hl
      refine lv_iload hx hb dX6_init_21 (lv_at hl 6 rfl) ?_
      refine lv_aload_n hx hb dX6_init_23 rfl (lv_at hl 0 rfl) ?_
      refine db_getR hx hb hts hown hK hW.1 fb1 db_c6 0 (by decide) (hts _ wd_172) rfl dX6_init_24 ?_
      refine db_alenR hx hb hK hW.1 2 rfl fb2 dX6_init_27 ?_
      refine lv_icmp_ge (tgt := 51) hx hb dX6_init_28 (by decide) (fun c28 => ?_) (fun c28 => ?_)
      · have hj : j = n := by
          rcases Nat.lt_or_ge j n with q9 | q9
          · exact absurd c28 (nI_ge q9 (by omega))
          · omega
        subst hj
        have hW := hW.qext fb2 (g := fun p => some (a + 2 + 2 * p)) (fun i hi => by simp [hi])
        obtain ⟨h3, eh3⟩ : ∃ w, w = db_set h (a + 1) (.inl (Γ.2 2, j, .inr (.inr (.inr (.inr (fun p => some (a + 2 + 2 * p))))))) := ⟨_, rfl⟩
        rw [← eh3] at hW
        have f3 : h3 (a + 1) = some (.inl (Γ.2 2, j, .inr (.inr (.inr (.inr (fun p => some (a + 2 + 2 * p))))))) := by rw [eh3]; exact db_ss
        have f3_1 : h3 a = some (.inr (6, [.ref (a + 1), .null, .null, .null, .null, .int 0, .int 0, .int 0])) := by rw [eh3]; exact (db_sn (by omega)).trans fb1
        have fT : ∀ i, i < j → h3 (a + 2 + 2 * i) = some (.inr (5, [.ref (a + 3 + 2 * i), .int 0, .int 0, .int 0, .int 0, .int 0, .int 0, .int 0, .int 0, .int 0, .int 0, .int 0])) := fun i hi => by rw [eh3]; exact (db_sn (by omega)).trans (fT i hi)
        have fJ : ∀ i, i < j → h3 (a + 3 + 2 * i) = some (.inr (0, [.int 0, .int 0, .int 0, .int 0, .int (-1), .int 0, .int 0])) := fun i hi => by rw [eh3]; exact (db_sn (by omega)).trans (fJ i hi)
        refine lv_aload_n hx hb dX6_init_51 rfl (lv_at hl 0 rfl) ?_
        refine lv_iload_n hx hb dX6_init_52 rfl (lv_at hl 2 rfl) ?_
        refine lv_iconst (v := 0) hx hb dX6_init_53 (by decide) ?_
        refine lv_bipush (v := 16) hx hb dX6_init_54 (by decide) ?_
        refine db_cSO (As := [.int lk, .int 0, .int 16]) (rest := [.ref a]) hC hW hz (n_X6_nearest l Γ _ _ lk 0 16 (by decide) (by decide)) (cw_X6_nearest (Nat.le_of_ble_eq_true rfl) (Nat.le_of_ble_eq_true rfl)) wd_19 wd_20 rfl hl.1 rfl (Nat.le_of_ble_eq_true rfl) dX6_init_56 ⟨by show (1 + 2 * j) + 0 ≤ 89; omega, by show (j + 19 * j) + 0 ≤ 1243; omega⟩ (fun v9 h9 H locs hP9 hW => ?_)
        obtain ⟨rfl, e9, hz⟩ := hP9
        rw [e9] at hW
        refine W.widen (k := (1 + 2 * j)) (n := (j + 19 * j)) (Nat.le_refl _) (Nat.le_refl _) ?_
        refine W.eq (g2 := F0 m 59 ls [.int (nI nl), .ref a]) (by rw [e2]; rfl) ?_
        refine db_newI hx hb hts hK hW wd_139 (k := nl) rfl (by omega) (by show (1 + 2 * j) + 1 ≤ 89; omega) (by show (j + 19 * j) + nl ≤ 1243; omega) dX6_init_59 hz (fun H hW hno hz => ?_)
        have hz : H.size = a + 3 + 2 * j := by omega
        obtain ⟨h4, eh4⟩ : ∃ w, w = db_set h3 (a + 2 + 2 * j) (.inl (Γ.2 0, nl, .inl (fun _ => 0))) := ⟨_, rfl⟩
        rw [← eh4] at hW
        have f4 : h4 (a + 2 + 2 * j) = some (.inl (Γ.2 0, nl, .inl (fun _ => 0))) := by rw [eh4]; exact db_ss
        have f4_1 : h4 (a + 1) = some (.inl (Γ.2 2, j, .inr (.inr (.inr (.inr (fun p => some (a + 2 + 2 * p))))))) := by rw [eh4]; exact (db_sn (by omega)).trans f3
        have f4_2 : h4 a = some (.inr (6, [.ref (a + 1), .null, .null, .null, .null, .int 0, .int 0, .int 0])) := by rw [eh4]; exact (db_sn (by omega)).trans f3_1
        have fT : ∀ i, i < j → h4 (a + 2 + 2 * i) = some (.inr (5, [.ref (a + 3 + 2 * i), .int 0, .int 0, .int 0, .int 0, .int 0, .int 0, .int 0, .int 0, .int 0, .int 0, .int 0])) := fun i hi => by rw [eh4]; exact (db_sn (by omega)).trans (fT i hi)
        have fJ : ∀ i, i < j → h4 (a + 3 + 2 * i) = some (.inr (0, [.int 0, .int 0, .int 0, .int 0, .int (-1), .int 0, .int 0])) := fun i hi => by rw [eh4]; exact (db_sn (by omega)).trans (fJ i hi)
        refine db_putFS hx hb hts hown hK hW f4_2 db_c6 1 (by decide) (hts _ wd_173) rfl hin2 rfl (v := .ref (a + 2 + 2 * j)) rfl rfl (Nat.le_of_ble_eq_true rfl) dX6_init_61 (fun H locs hz1 hW => ?_)
        have hz := hz1.trans hz
        have hW : db_W Γ A s.heap (db_set h4 a (.inr (6, [.ref (a + 1), .ref (a + 2 + 2 * j), .null, .null, .null, .int 0, .int 0, .int 0]))) H locs := hW
        obtain ⟨h5, eh5⟩ : ∃ w, w = db_set h4 a (.inr (6, [.ref (a + 1), .ref (a + 2 + 2 * j), .null, .null, .null, .int 0, .int 0, .int 0])) := ⟨_, rfl⟩
        rw [← eh5] at hW
        have f5 : h5 a = some (.inr (6, [.ref (a + 1), .ref (a + 2 + 2 * j), .null, .null, .null, .int 0, .int 0, .int 0])) := by rw [eh5]; exact db_ss
        have f5_1 : h5 (a + 2 + 2 * j) = some (.inl (Γ.2 0, nl, .inl (fun _ => 0))) := by rw [eh5]; exact (db_sn (by omega)).trans f4
        have f5_2 : h5 (a + 1) = some (.inl (Γ.2 2, j, .inr (.inr (.inr (.inr (fun p => some (a + 2 + 2 * p))))))) := by rw [eh5]; exact (db_sn (by omega)).trans f4_1
        have fT : ∀ i, i < j → h5 (a + 2 + 2 * i) = some (.inr (5, [.ref (a + 3 + 2 * i), .int 0, .int 0, .int 0, .int 0, .int 0, .int 0, .int 0, .int 0, .int 0, .int 0, .int 0])) := fun i hi => by rw [eh5]; exact (db_sn (by omega)).trans (fT i hi)
        have fJ : ∀ i, i < j → h5 (a + 3 + 2 * i) = some (.inr (0, [.int 0, .int 0, .int 0, .int 0, .int (-1), .int 0, .int 0])) := fun i hi => by rw [eh5]; exact (db_sn (by omega)).trans (fJ i hi)
        refine lv_aload_n hx hb dX6_init_64 rfl (lv_at hl 0 rfl) ?_
        refine db_getR hx hb hts hown hK hW.1 f5 db_c6 1 (by decide) (hts _ wd_173) rfl dX6_init_65 ?_
        refine lv_iconst (v := -1) hx hb dX6_init_68 (by decide) ?_
        refine db_cSO (As := [.ref (a + 2 + 2 * j), .int (-1)]) (rest := []) hC hW hz (n_J7_fill_53178 l Γ _ (a + 2 + 2 * j) _ nl (-1) _ (by omega) f5_1) (cw_J7_fill_53178 (Nat.le_of_ble_eq_true rfl) (Nat.le_of_ble_eq_true rfl)) wd_119 wd_120 rfl hl.1 rfl (Nat.le_of_ble_eq_true rfl) dX6_init_69 ⟨by show (1 + 2 * j) + 1 + 0 ≤ 89; omega, by show (j + 19 * j) + nl + 0 ≤ 1243; omega⟩ (fun v9 h9 H locs hP9 hW => ?_)
        obtain ⟨rfl, ⟨gg, hgg, hgv⟩, hoth, hz⟩ := hP9
        refine W.widen (k := (1 + 2 * j) + 1) (n := (j + 19 * j) + nl) (Nat.le_refl _) (Nat.le_refl _) ?_
        refine W.eq (g2 := F0 m 72 ls []) rfl ?_
        have g1 : h9 a = some (.inr (6, [.ref (a + 1), .ref (a + 2 + 2 * j), .null, .null, .null, .int 0, .int 0, .int 0])) := (hoth _ (by omega)).trans f5
        have g2 : h9 (a + 1) = some (.inl (Γ.2 2, j, .inr (.inr (.inr (.inr (fun p => some (a + 2 + 2 * p))))))) := (hoth _ (by omega)).trans f5_2
        have fT : ∀ i, i < j → h9 (a + 2 + 2 * i) = some (.inr (5, [.ref (a + 3 + 2 * i), .int 0, .int 0, .int 0, .int 0, .int 0, .int 0, .int 0, .int 0, .int 0, .int 0, .int 0])) := fun i hi => (hoth _ (by omega)).trans (fT i hi)
        have fJ : ∀ i, i < j → h9 (a + 3 + 2 * i) = some (.inr (0, [.int 0, .int 0, .int 0, .int 0, .int (-1), .int 0, .int 0])) := fun i hi => (hoth _ (by omega)).trans (fJ i hi)
        have hW := hW.iext hgg (g := fun _ => -1) (fun j hj => hgv j hj)
        obtain ⟨h6, eh6⟩ : ∃ w, w = db_set h9 (a + 2 + 2 * j) (.inl (Γ.2 0, nl, .inl (fun _ => -1))) := ⟨_, rfl⟩
        rw [← eh6] at hW
        have f6 : h6 (a + 2 + 2 * j) = some (.inl (Γ.2 0, nl, .inl (fun _ => -1))) := by rw [eh6]; exact db_ss
        have f6_1 : h6 a = some (.inr (6, [.ref (a + 1), .ref (a + 2 + 2 * j), .null, .null, .null, .int 0, .int 0, .int 0])) := by rw [eh6]; exact (db_sn (by omega)).trans g1
        have f6_2 : h6 (a + 1) = some (.inl (Γ.2 2, j, .inr (.inr (.inr (.inr (fun p => some (a + 2 + 2 * p))))))) := by rw [eh6]; exact (db_sn (by omega)).trans g2
        have fT : ∀ i, i < j → h6 (a + 2 + 2 * i) = some (.inr (5, [.ref (a + 3 + 2 * i), .int 0, .int 0, .int 0, .int 0, .int 0, .int 0, .int 0, .int 0, .int 0, .int 0, .int 0])) := fun i hi => by rw [eh6]; exact (db_sn (by omega)).trans (fT i hi)
        have fJ : ∀ i, i < j → h6 (a + 3 + 2 * i) = some (.inr (0, [.int 0, .int 0, .int 0, .int 0, .int (-1), .int 0, .int 0])) := fun i hi => by rw [eh6]; exact (db_sn (by omega)).trans (fJ i hi)
        refine lv_aload_n hx hb dX6_init_72 rfl (lv_at hl 0 rfl) ?_
        refine db_newR hx hb hts hown hK hW db_c4 wd_122 wd_123 wd_6 (fs := [.null, .int 0]) (by decide +kernel) (by show (1 + 2 * j) + 1 + 1 ≤ 89; omega) (by show (j + 19 * j) + nl + 2 ≤ 1243; omega) dX6_init_73 hz (fun H hW hno hz => ?_)
        have hz : H.size = a + 4 + 2 * j := by omega
        obtain ⟨h7, eh7⟩ : ∃ w, w = db_set h6 (a + 3 + 2 * j) (.inr (4, [.null, .int 0])) := ⟨_, rfl⟩
        rw [← eh7] at hW
        have f7 : h7 (a + 3 + 2 * j) = some (.inr (4, [.null, .int 0])) := by rw [eh7]; exact db_ss
        have f7_1 : h7 (a + 2 + 2 * j) = some (.inl (Γ.2 0, nl, .inl (fun _ => -1))) := by rw [eh7]; exact (db_sn (by omega)).trans f6
        have f7_2 : h7 a = some (.inr (6, [.ref (a + 1), .ref (a + 2 + 2 * j), .null, .null, .null, .int 0, .int 0, .int 0])) := by rw [eh7]; exact (db_sn (by omega)).trans f6_1
        have f7_3 : h7 (a + 1) = some (.inl (Γ.2 2, j, .inr (.inr (.inr (.inr (fun p => some (a + 2 + 2 * p))))))) := by rw [eh7]; exact (db_sn (by omega)).trans f6_2
        have fT : ∀ i, i < j → h7 (a + 2 + 2 * i) = some (.inr (5, [.ref (a + 3 + 2 * i), .int 0, .int 0, .int 0, .int 0, .int 0, .int 0, .int 0, .int 0, .int 0, .int 0, .int 0])) := fun i hi => by rw [eh7]; exact (db_sn (by omega)).trans (fT i hi)
        have fJ : ∀ i, i < j → h7 (a + 3 + 2 * i) = some (.inr (0, [.int 0, .int 0, .int 0, .int 0, .int (-1), .int 0, .int 0])) := fun i hi => by rw [eh7]; exact (db_sn (by omega)).trans (fJ i hi)
        refine lv_dup hx hb dX6_init_76 rfl ?_
        refine lv_iload_n hx hb dX6_init_77 rfl (lv_at hl 3 rfl) ?_
        refine lv_iconst (v := 0) hx hb dX6_init_78 (by decide) ?_
        refine lv_bipush (v := 120) hx hb dX6_init_79 (by decide) ?_
        refine db_cSO (As := [.int se, .int 0, .int 120]) (rest := [.ref (a + 3 + 2 * j), .ref (a + 3 + 2 * j), .ref a]) hC hW hz (n_X6_nearest l Γ _ _ se 0 120 (by decide) (by decide)) (cw_X6_nearest (Nat.le_of_ble_eq_true rfl) (Nat.le_of_ble_eq_true rfl)) wd_19 wd_20 rfl hl.1 rfl (Nat.le_of_ble_eq_true rfl) dX6_init_81 ⟨by show (1 + 2 * j) + 1 + 1 + 0 ≤ 89; omega, by show (j + 19 * j) + nl + 2 + 0 ≤ 1243; omega⟩ (fun v9 h9 H locs hP9 hW => ?_)
        obtain ⟨rfl, e9, hz⟩ := hP9
        rw [e9] at hW
        refine W.widen (k := (1 + 2 * j) + 1 + 1) (n := (j + 19 * j) + nl + 2) (Nat.le_refl _) (Nat.le_refl _) ?_
        refine W.eq (g2 := F0 m 84 ls [.int (nI ns), .ref (a + 3 + 2 * j), .ref (a + 3 + 2 * j), .ref a]) (by rw [e3]; rfl) ?_
        refine db_cIN (As := [.int (nI ns)]) (rest := [.ref (a + 3 + 2 * j), .ref a]) hC hW hz (n_X4_init l Γ (a + 3 + 2 * j) _ _ ns f7 (by omega)) (cw_X4_init (Nat.le_of_ble_eq_true rfl) (Nat.le_of_ble_eq_true rfl)) wn_124 wd_125 rfl rfl hl.1 rfl (Nat.le_of_ble_eq_true rfl) dX6_init_84 ⟨by show (1 + 2 * j) + 1 + 1 + 1 ≤ 89; omega, by show (j + 19 * j) + nl + 2 + 120 ≤ 1243; omega⟩ (fun v9 h9 H locs hP9 hW => ?_)
        obtain ⟨rfl, e9, hz⟩ := hP9
        rw [e9] at hW
        refine W.widen (k := (1 + 2 * j) + 1 + 1 + 1) (n := (j + 19 * j) + nl + 2 + 120) (Nat.le_refl _) (Nat.le_refl _) ?_
        refine W.eq (g2 := F0 m 87 ls [.ref (a + 3 + 2 * j), .ref a]) rfl ?_
        obtain ⟨h8, eh8⟩ : ∃ w, w = db_set h7 (a + 4 + 2 * j) (.inl (Γ.2 3, ns, .inr (.inr (.inr (.inr (fun _ => none)))))) := ⟨_, rfl⟩
        rw [← eh8] at hW
        have f8 : h8 (a + 4 + 2 * j) = some (.inl (Γ.2 3, ns, .inr (.inr (.inr (.inr (fun _ => none)))))) := by rw [eh8]; exact db_ss
        have f8_1 : h8 (a + 3 + 2 * j) = some (.inr (4, [.null, .int 0])) := by rw [eh8]; exact (db_sn (by omega)).trans f7
        have f8_2 : h8 (a + 2 + 2 * j) = some (.inl (Γ.2 0, nl, .inl (fun _ => -1))) := by rw [eh8]; exact (db_sn (by omega)).trans f7_1
        have f8_3 : h8 a = some (.inr (6, [.ref (a + 1), .ref (a + 2 + 2 * j), .null, .null, .null, .int 0, .int 0, .int 0])) := by rw [eh8]; exact (db_sn (by omega)).trans f7_2
        have f8_4 : h8 (a + 1) = some (.inl (Γ.2 2, j, .inr (.inr (.inr (.inr (fun p => some (a + 2 + 2 * p))))))) := by rw [eh8]; exact (db_sn (by omega)).trans f7_3
        have fT : ∀ i, i < j → h8 (a + 2 + 2 * i) = some (.inr (5, [.ref (a + 3 + 2 * i), .int 0, .int 0, .int 0, .int 0, .int 0, .int 0, .int 0, .int 0, .int 0, .int 0, .int 0])) := fun i hi => by rw [eh8]; exact (db_sn (by omega)).trans (fT i hi)
        have fJ : ∀ i, i < j → h8 (a + 3 + 2 * i) = some (.inr (0, [.int 0, .int 0, .int 0, .int 0, .int (-1), .int 0, .int 0])) := fun i hi => by rw [eh8]; exact (db_sn (by omega)).trans (fJ i hi)
        obtain ⟨h9, eh9⟩ : ∃ w, w = db_set h8 (a + 3 + 2 * j) (.inr (4, [.ref (a + 4 + 2 * j), .int 0])) := ⟨_, rfl⟩
        rw [← eh9] at hW
        have f9 : h9 (a + 3 + 2 * j) = some (.inr (4, [.ref (a + 4 + 2 * j), .int 0])) := by rw [eh9]; exact db_ss
        have f9_1 : h9 (a + 4 + 2 * j) = some (.inl (Γ.2 3, ns, .inr (.inr (.inr (.inr (fun _ => none)))))) := by rw [eh9]; exact (db_sn (by omega)).trans f8
        have f9_2 : h9 (a + 2 + 2 * j) = some (.inl (Γ.2 0, nl, .inl (fun _ => -1))) := by rw [eh9]; exact (db_sn (by omega)).trans f8_2
        have f9_3 : h9 a = some (.inr (6, [.ref (a + 1), .ref (a + 2 + 2 * j), .null, .null, .null, .int 0, .int 0, .int 0])) := by rw [eh9]; exact (db_sn (by omega)).trans f8_3
        have f9_4 : h9 (a + 1) = some (.inl (Γ.2 2, j, .inr (.inr (.inr (.inr (fun p => some (a + 2 + 2 * p))))))) := by rw [eh9]; exact (db_sn (by omega)).trans f8_4
        have fT : ∀ i, i < j → h9 (a + 2 + 2 * i) = some (.inr (5, [.ref (a + 3 + 2 * i), .int 0, .int 0, .int 0, .int 0, .int 0, .int 0, .int 0, .int 0, .int 0, .int 0, .int 0])) := fun i hi => by rw [eh9]; exact (db_sn (by omega)).trans (fT i hi)
        have fJ : ∀ i, i < j → h9 (a + 3 + 2 * i) = some (.inr (0, [.int 0, .int 0, .int 0, .int 0, .int (-1), .int 0, .int 0])) := fun i hi => by rw [eh9]; exact (db_sn (by omega)).trans (fJ i hi)
        have hz : H.size = a + 5 + 2 * j := by omega
        refine db_putFS hx hb hts hown hK hW f9_3 db_c6 2 (by decide) (hts _ wd_174) rfl hin2 rfl (v := .ref (a + 3 + 2 * j)) rfl rfl (Nat.le_of_ble_eq_true rfl) dX6_init_87 (fun H locs hz1 hW => ?_)
        have hz := hz1.trans hz
        have hW : db_W Γ A s.heap (db_set h9 a (.inr (6, [.ref (a + 1), .ref (a + 2 + 2 * j), .ref (a + 3 + 2 * j), .null, .null, .int 0, .int 0, .int 0]))) H locs := hW
        obtain ⟨h10, eh10⟩ : ∃ w, w = db_set h9 a (.inr (6, [.ref (a + 1), .ref (a + 2 + 2 * j), .ref (a + 3 + 2 * j), .null, .null, .int 0, .int 0, .int 0])) := ⟨_, rfl⟩
        rw [← eh10] at hW
        have f10 : h10 a = some (.inr (6, [.ref (a + 1), .ref (a + 2 + 2 * j), .ref (a + 3 + 2 * j), .null, .null, .int 0, .int 0, .int 0])) := by rw [eh10]; exact db_ss
        have f10_1 : h10 (a + 3 + 2 * j) = some (.inr (4, [.ref (a + 4 + 2 * j), .int 0])) := by rw [eh10]; exact (db_sn (by omega)).trans f9
        have f10_2 : h10 (a + 4 + 2 * j) = some (.inl (Γ.2 3, ns, .inr (.inr (.inr (.inr (fun _ => none)))))) := by rw [eh10]; exact (db_sn (by omega)).trans f9_1
        have f10_3 : h10 (a + 2 + 2 * j) = some (.inl (Γ.2 0, nl, .inl (fun _ => -1))) := by rw [eh10]; exact (db_sn (by omega)).trans f9_2
        have f10_4 : h10 (a + 1) = some (.inl (Γ.2 2, j, .inr (.inr (.inr (.inr (fun p => some (a + 2 + 2 * p))))))) := by rw [eh10]; exact (db_sn (by omega)).trans f9_4
        have fT : ∀ i, i < j → h10 (a + 2 + 2 * i) = some (.inr (5, [.ref (a + 3 + 2 * i), .int 0, .int 0, .int 0, .int 0, .int 0, .int 0, .int 0, .int 0, .int 0, .int 0, .int 0])) := fun i hi => by rw [eh10]; exact (db_sn (by omega)).trans (fT i hi)
        have fJ : ∀ i, i < j → h10 (a + 3 + 2 * i) = some (.inr (0, [.int 0, .int 0, .int 0, .int 0, .int (-1), .int 0, .int 0])) := fun i hi => by rw [eh10]; exact (db_sn (by omega)).trans (fJ i hi)
        refine lv_aload_n hx hb dX6_init_90 rfl (lv_at hl 0 rfl) ?_
        refine db_newR hx hb hts hown hK hW db_c1 wd_140 wd_141 wd_7 (fs := [.null, .null, .int 0]) (by decide +kernel) (by show (1 + 2 * j) + 1 + 1 + 1 + 1 ≤ 89; omega) (by show (j + 19 * j) + nl + 2 + 120 + 3 ≤ 1243; omega) dX6_init_91 hz (fun H hW hno hz => ?_)
        have hz : H.size = a + 6 + 2 * j := by omega
        obtain ⟨h11, eh11⟩ : ∃ w, w = db_set h10 (a + 5 + 2 * j) (.inr (1, [.null, .null, .int 0])) := ⟨_, rfl⟩
        rw [← eh11] at hW
        have f11 : h11 (a + 5 + 2 * j) = some (.inr (1, [.null, .null, .int 0])) := by rw [eh11]; exact db_ss
        have f11_1 : h11 a = some (.inr (6, [.ref (a + 1), .ref (a + 2 + 2 * j), .ref (a + 3 + 2 * j), .null, .null, .int 0, .int 0, .int 0])) := by rw [eh11]; exact (db_sn (by omega)).trans f10
        have f11_2 : h11 (a + 3 + 2 * j) = some (.inr (4, [.ref (a + 4 + 2 * j), .int 0])) := by rw [eh11]; exact (db_sn (by omega)).trans f10_1
        have f11_3 : h11 (a + 4 + 2 * j) = some (.inl (Γ.2 3, ns, .inr (.inr (.inr (.inr (fun _ => none)))))) := by rw [eh11]; exact (db_sn (by omega)).trans f10_2
        have f11_4 : h11 (a + 2 + 2 * j) = some (.inl (Γ.2 0, nl, .inl (fun _ => -1))) := by rw [eh11]; exact (db_sn (by omega)).trans f10_3
        have f11_5 : h11 (a + 1) = some (.inl (Γ.2 2, j, .inr (.inr (.inr (.inr (fun p => some (a + 2 + 2 * p))))))) := by rw [eh11]; exact (db_sn (by omega)).trans f10_4
        have fT : ∀ i, i < j → h11 (a + 2 + 2 * i) = some (.inr (5, [.ref (a + 3 + 2 * i), .int 0, .int 0, .int 0, .int 0, .int 0, .int 0, .int 0, .int 0, .int 0, .int 0, .int 0])) := fun i hi => by rw [eh11]; exact (db_sn (by omega)).trans (fT i hi)
        have fJ : ∀ i, i < j → h11 (a + 3 + 2 * i) = some (.inr (0, [.int 0, .int 0, .int 0, .int 0, .int (-1), .int 0, .int 0])) := fun i hi => by rw [eh11]; exact (db_sn (by omega)).trans (fJ i hi)
        refine lv_dup hx hb dX6_init_94 rfl ?_
        refine lv_iload hx hb dX6_init_95 (lv_at hl 4 rfl) ?_
        refine lv_iconst (v := 0) hx hb dX6_init_97 (by decide) ?_
        refine lv_bipush (v := 100) hx hb dX6_init_98 (by decide) ?_
        refine db_cSO (As := [.int lg, .int 0, .int 100]) (rest := [.ref (a + 5 + 2 * j), .ref (a + 5 + 2 * j), .ref a]) hC hW hz (n_X6_nearest l Γ _ _ lg 0 100 (by decide) (by decide)) (cw_X6_nearest (Nat.le_of_ble_eq_true rfl) (Nat.le_of_ble_eq_true rfl)) wd_19 wd_20 rfl hl.1 rfl (Nat.le_of_ble_eq_true rfl) dX6_init_100 ⟨by show (1 + 2 * j) + 1 + 1 + 1 + 1 + 0 ≤ 89; omega, by show (j + 19 * j) + nl + 2 + 120 + 3 + 0 ≤ 1243; omega⟩ (fun v9 h9 H locs hP9 hW => ?_)
        obtain ⟨rfl, e9, hz⟩ := hP9
        rw [e9] at hW
        refine W.widen (k := (1 + 2 * j) + 1 + 1 + 1 + 1) (n := (j + 19 * j) + nl + 2 + 120 + 3) (Nat.le_refl _) (Nat.le_refl _) ?_
        refine W.eq (g2 := F0 m 103 ls [.int (nI ng), .ref (a + 5 + 2 * j), .ref (a + 5 + 2 * j), .ref a]) (by rw [e4]; rfl) ?_
        refine db_cIN (As := [.int (nI ng)]) (rest := [.ref (a + 5 + 2 * j), .ref a]) hC hW hz (n_X1_init l Γ (a + 5 + 2 * j) _ _ ng f11 (by omega)) (cw_X1_init (Nat.le_of_ble_eq_true rfl) (Nat.le_of_ble_eq_true rfl)) wn_142 wd_143 rfl rfl hl.1 rfl (Nat.le_of_ble_eq_true rfl) dX6_init_103 ⟨by show (1 + 2 * j) + 1 + 1 + 1 + 1 + 2 ≤ 89; omega, by show (j + 19 * j) + nl + 2 + 120 + 3 + 200 ≤ 1243; omega⟩ (fun v9 h9 H locs hP9 hW => ?_)
        obtain ⟨rfl, e9, hz⟩ := hP9
        rw [e9] at hW
        refine W.widen (k := (1 + 2 * j) + 1 + 1 + 1 + 1 + 2) (n := (j + 19 * j) + nl + 2 + 120 + 3 + 200) (Nat.le_refl _) (Nat.le_refl _) ?_
        refine W.eq (g2 := F0 m 106 ls [.ref (a + 5 + 2 * j), .ref a]) rfl ?_
        obtain ⟨h12, eh12⟩ : ∃ w, w = db_set h11 (a + 6 + 2 * j) (.inl (Γ.2 0, ng, .inl (fun _ => 0))) := ⟨_, rfl⟩
        rw [← eh12] at hW
        have f12 : h12 (a + 6 + 2 * j) = some (.inl (Γ.2 0, ng, .inl (fun _ => 0))) := by rw [eh12]; exact db_ss
        have f12_1 : h12 (a + 5 + 2 * j) = some (.inr (1, [.null, .null, .int 0])) := by rw [eh12]; exact (db_sn (by omega)).trans f11
        have f12_2 : h12 a = some (.inr (6, [.ref (a + 1), .ref (a + 2 + 2 * j), .ref (a + 3 + 2 * j), .null, .null, .int 0, .int 0, .int 0])) := by rw [eh12]; exact (db_sn (by omega)).trans f11_1
        have f12_3 : h12 (a + 3 + 2 * j) = some (.inr (4, [.ref (a + 4 + 2 * j), .int 0])) := by rw [eh12]; exact (db_sn (by omega)).trans f11_2
        have f12_4 : h12 (a + 4 + 2 * j) = some (.inl (Γ.2 3, ns, .inr (.inr (.inr (.inr (fun _ => none)))))) := by rw [eh12]; exact (db_sn (by omega)).trans f11_3
        have f12_5 : h12 (a + 2 + 2 * j) = some (.inl (Γ.2 0, nl, .inl (fun _ => -1))) := by rw [eh12]; exact (db_sn (by omega)).trans f11_4
        have f12_6 : h12 (a + 1) = some (.inl (Γ.2 2, j, .inr (.inr (.inr (.inr (fun p => some (a + 2 + 2 * p))))))) := by rw [eh12]; exact (db_sn (by omega)).trans f11_5
        have fT : ∀ i, i < j → h12 (a + 2 + 2 * i) = some (.inr (5, [.ref (a + 3 + 2 * i), .int 0, .int 0, .int 0, .int 0, .int 0, .int 0, .int 0, .int 0, .int 0, .int 0, .int 0])) := fun i hi => by rw [eh12]; exact (db_sn (by omega)).trans (fT i hi)
        have fJ : ∀ i, i < j → h12 (a + 3 + 2 * i) = some (.inr (0, [.int 0, .int 0, .int 0, .int 0, .int (-1), .int 0, .int 0])) := fun i hi => by rw [eh12]; exact (db_sn (by omega)).trans (fJ i hi)
        obtain ⟨h13, eh13⟩ : ∃ w, w = db_set h12 (a + 5 + 2 * j) (.inr (1, [.ref (a + 6 + 2 * j), .null, .int 0])) := ⟨_, rfl⟩
        rw [← eh13] at hW
        have f13 : h13 (a + 5 + 2 * j) = some (.inr (1, [.ref (a + 6 + 2 * j), .null, .int 0])) := by rw [eh13]; exact db_ss
        have f13_1 : h13 (a + 6 + 2 * j) = some (.inl (Γ.2 0, ng, .inl (fun _ => 0))) := by rw [eh13]; exact (db_sn (by omega)).trans f12
        have f13_2 : h13 a = some (.inr (6, [.ref (a + 1), .ref (a + 2 + 2 * j), .ref (a + 3 + 2 * j), .null, .null, .int 0, .int 0, .int 0])) := by rw [eh13]; exact (db_sn (by omega)).trans f12_2
        have f13_3 : h13 (a + 3 + 2 * j) = some (.inr (4, [.ref (a + 4 + 2 * j), .int 0])) := by rw [eh13]; exact (db_sn (by omega)).trans f12_3
        have f13_4 : h13 (a + 4 + 2 * j) = some (.inl (Γ.2 3, ns, .inr (.inr (.inr (.inr (fun _ => none)))))) := by rw [eh13]; exact (db_sn (by omega)).trans f12_4
        have f13_5 : h13 (a + 2 + 2 * j) = some (.inl (Γ.2 0, nl, .inl (fun _ => -1))) := by rw [eh13]; exact (db_sn (by omega)).trans f12_5
        have f13_6 : h13 (a + 1) = some (.inl (Γ.2 2, j, .inr (.inr (.inr (.inr (fun p => some (a + 2 + 2 * p))))))) := by rw [eh13]; exact (db_sn (by omega)).trans f12_6
        have fT : ∀ i, i < j → h13 (a + 2 + 2 * i) = some (.inr (5, [.ref (a + 3 + 2 * i), .int 0, .int 0, .int 0, .int 0, .int 0, .int 0, .int 0, .int 0, .int 0, .int 0, .int 0])) := fun i hi => by rw [eh13]; exact (db_sn (by omega)).trans (fT i hi)
        have fJ : ∀ i, i < j → h13 (a + 3 + 2 * i) = some (.inr (0, [.int 0, .int 0, .int 0, .int 0, .int (-1), .int 0, .int 0])) := fun i hi => by rw [eh13]; exact (db_sn (by omega)).trans (fJ i hi)
        obtain ⟨h14, eh14⟩ : ∃ w, w = db_set h13 (a + 6 + 2 * j + 1) (.inl (Γ.2 0, ng, .inl (fun _ => 0))) := ⟨_, rfl⟩
        rw [← eh14] at hW
        have f14 : h14 (a + 6 + 2 * j + 1) = some (.inl (Γ.2 0, ng, .inl (fun _ => 0))) := by rw [eh14]; exact db_ss
        have f14_1 : h14 (a + 5 + 2 * j) = some (.inr (1, [.ref (a + 6 + 2 * j), .null, .int 0])) := by rw [eh14]; exact (db_sn (by omega)).trans f13
        have f14_2 : h14 (a + 6 + 2 * j) = some (.inl (Γ.2 0, ng, .inl (fun _ => 0))) := by rw [eh14]; exact (db_sn (by omega)).trans f13_1
        have f14_3 : h14 a = some (.inr (6, [.ref (a + 1), .ref (a + 2 + 2 * j), .ref (a + 3 + 2 * j), .null, .null, .int 0, .int 0, .int 0])) := by rw [eh14]; exact (db_sn (by omega)).trans f13_2
        have f14_4 : h14 (a + 3 + 2 * j) = some (.inr (4, [.ref (a + 4 + 2 * j), .int 0])) := by rw [eh14]; exact (db_sn (by omega)).trans f13_3
        have f14_5 : h14 (a + 4 + 2 * j) = some (.inl (Γ.2 3, ns, .inr (.inr (.inr (.inr (fun _ => none)))))) := by rw [eh14]; exact (db_sn (by omega)).trans f13_4
        have f14_6 : h14 (a + 2 + 2 * j) = some (.inl (Γ.2 0, nl, .inl (fun _ => -1))) := by rw [eh14]; exact (db_sn (by omega)).trans f13_5
        have f14_7 : h14 (a + 1) = some (.inl (Γ.2 2, j, .inr (.inr (.inr (.inr (fun p => some (a + 2 + 2 * p))))))) := by rw [eh14]; exact (db_sn (by omega)).trans f13_6
        have fT : ∀ i, i < j → h14 (a + 2 + 2 * i) = some (.inr (5, [.ref (a + 3 + 2 * i), .int 0, .int 0, .int 0, .int 0, .int 0, .int 0, .int 0, .int 0, .int 0, .int 0, .int 0])) := fun i hi => by rw [eh14]; exact (db_sn (by omega)).trans (fT i hi)
        have fJ : ∀ i, i < j → h14 (a + 3 + 2 * i) = some (.inr (0, [.int 0, .int 0, .int 0, .int 0, .int (-1), .int 0, .int 0])) := fun i hi => by rw [eh14]; exact (db_sn (by omega)).trans (fJ i hi)
        obtain ⟨h15, eh15⟩ : ∃ w, w = db_set h14 (a + 5 + 2 * j) (.inr (1, [.ref (a + 6 + 2 * j), .ref (a + 6 + 2 * j + 1), .int 0])) := ⟨_, rfl⟩
        rw [← eh15] at hW
        have f15 : h15 (a + 5 + 2 * j) = some (.inr (1, [.ref (a + 6 + 2 * j), .ref (a + 6 + 2 * j + 1), .int 0])) := by rw [eh15]; exact db_ss
        have f15_1 : h15 (a + 6 + 2 * j + 1) = some (.inl (Γ.2 0, ng, .inl (fun _ => 0))) := by rw [eh15]; exact (db_sn (by omega)).trans f14
        have f15_2 : h15 (a + 6 + 2 * j) = some (.inl (Γ.2 0, ng, .inl (fun _ => 0))) := by rw [eh15]; exact (db_sn (by omega)).trans f14_2
        have f15_3 : h15 a = some (.inr (6, [.ref (a + 1), .ref (a + 2 + 2 * j), .ref (a + 3 + 2 * j), .null, .null, .int 0, .int 0, .int 0])) := by rw [eh15]; exact (db_sn (by omega)).trans f14_3
        have f15_4 : h15 (a + 3 + 2 * j) = some (.inr (4, [.ref (a + 4 + 2 * j), .int 0])) := by rw [eh15]; exact (db_sn (by omega)).trans f14_4
        have f15_5 : h15 (a + 4 + 2 * j) = some (.inl (Γ.2 3, ns, .inr (.inr (.inr (.inr (fun _ => none)))))) := by rw [eh15]; exact (db_sn (by omega)).trans f14_5
        have f15_6 : h15 (a + 2 + 2 * j) = some (.inl (Γ.2 0, nl, .inl (fun _ => -1))) := by rw [eh15]; exact (db_sn (by omega)).trans f14_6
        have f15_7 : h15 (a + 1) = some (.inl (Γ.2 2, j, .inr (.inr (.inr (.inr (fun p => some (a + 2 + 2 * p))))))) := by rw [eh15]; exact (db_sn (by omega)).trans f14_7
        have fT : ∀ i, i < j → h15 (a + 2 + 2 * i) = some (.inr (5, [.ref (a + 3 + 2 * i), .int 0, .int 0, .int 0, .int 0, .int 0, .int 0, .int 0, .int 0, .int 0, .int 0, .int 0])) := fun i hi => by rw [eh15]; exact (db_sn (by omega)).trans (fT i hi)
        have fJ : ∀ i, i < j → h15 (a + 3 + 2 * i) = some (.inr (0, [.int 0, .int 0, .int 0, .int 0, .int (-1), .int 0, .int 0])) := fun i hi => by rw [eh15]; exact (db_sn (by omega)).trans (fJ i hi)
        have hz : H.size = a + 8 + 2 * j := by omega
        refine db_putFS hx hb hts hown hK hW f15_3 db_c6 3 (by decide) (hts _ wd_175) rfl hin2 rfl (v := .ref (a + 5 + 2 * j)) rfl rfl (Nat.le_of_ble_eq_true rfl) dX6_init_106 (fun H locs hz1 hW => ?_)
        have hz := hz1.trans hz
        have hW : db_W Γ A s.heap (db_set h15 a (.inr (6, [.ref (a + 1), .ref (a + 2 + 2 * j), .ref (a + 3 + 2 * j), .ref (a + 5 + 2 * j), .null, .int 0, .int 0, .int 0]))) H locs := hW
        obtain ⟨h16, eh16⟩ : ∃ w, w = db_set h15 a (.inr (6, [.ref (a + 1), .ref (a + 2 + 2 * j), .ref (a + 3 + 2 * j), .ref (a + 5 + 2 * j), .null, .int 0, .int 0, .int 0])) := ⟨_, rfl⟩
        rw [← eh16] at hW
        have f16 : h16 a = some (.inr (6, [.ref (a + 1), .ref (a + 2 + 2 * j), .ref (a + 3 + 2 * j), .ref (a + 5 + 2 * j), .null, .int 0, .int 0, .int 0])) := by rw [eh16]; exact db_ss
        have f16_1 : h16 (a + 5 + 2 * j) = some (.inr (1, [.ref (a + 6 + 2 * j), .ref (a + 6 + 2 * j + 1), .int 0])) := by rw [eh16]; exact (db_sn (by omega)).trans f15
        have f16_2 : h16 (a + 6 + 2 * j + 1) = some (.inl (Γ.2 0, ng, .inl (fun _ => 0))) := by rw [eh16]; exact (db_sn (by omega)).trans f15_1
        have f16_3 : h16 (a + 6 + 2 * j) = some (.inl (Γ.2 0, ng, .inl (fun _ => 0))) := by rw [eh16]; exact (db_sn (by omega)).trans f15_2
        have f16_4 : h16 (a + 3 + 2 * j) = some (.inr (4, [.ref (a + 4 + 2 * j), .int 0])) := by rw [eh16]; exact (db_sn (by omega)).trans f15_4
        have f16_5 : h16 (a + 4 + 2 * j) = some (.inl (Γ.2 3, ns, .inr (.inr (.inr (.inr (fun _ => none)))))) := by rw [eh16]; exact (db_sn (by omega)).trans f15_5
        have f16_6 : h16 (a + 2 + 2 * j) = some (.inl (Γ.2 0, nl, .inl (fun _ => -1))) := by rw [eh16]; exact (db_sn (by omega)).trans f15_6
        have f16_7 : h16 (a + 1) = some (.inl (Γ.2 2, j, .inr (.inr (.inr (.inr (fun p => some (a + 2 + 2 * p))))))) := by rw [eh16]; exact (db_sn (by omega)).trans f15_7
        have fT : ∀ i, i < j → h16 (a + 2 + 2 * i) = some (.inr (5, [.ref (a + 3 + 2 * i), .int 0, .int 0, .int 0, .int 0, .int 0, .int 0, .int 0, .int 0, .int 0, .int 0, .int 0])) := fun i hi => by rw [eh16]; exact (db_sn (by omega)).trans (fT i hi)
        have fJ : ∀ i, i < j → h16 (a + 3 + 2 * i) = some (.inr (0, [.int 0, .int 0, .int 0, .int 0, .int (-1), .int 0, .int 0])) := fun i hi => by rw [eh16]; exact (db_sn (by omega)).trans (fJ i hi)
        refine lv_aload_n hx hb dX6_init_109 rfl (lv_at hl 0 rfl) ?_
        refine db_newR hx hb hts hown hK hW db_c2 wd_159 wd_160 wd_8 (fs := [.null, .int 0]) (by decide +kernel) (by show (1 + 2 * j) + 1 + 1 + 1 + 1 + 2 + 1 ≤ 89; omega) (by show (j + 19 * j) + nl + 2 + 120 + 3 + 200 + 2 ≤ 1243; omega) dX6_init_110 hz (fun H hW hno hz => ?_)
        have hz : H.size = a + 9 + 2 * j := by omega
        obtain ⟨h17, eh17⟩ : ∃ w, w = db_set h16 (a + 8 + 2 * j) (.inr (2, [.null, .int 0])) := ⟨_, rfl⟩
        rw [← eh17] at hW
        have f17 : h17 (a + 8 + 2 * j) = some (.inr (2, [.null, .int 0])) := by rw [eh17]; exact db_ss
        have f17_1 : h17 a = some (.inr (6, [.ref (a + 1), .ref (a + 2 + 2 * j), .ref (a + 3 + 2 * j), .ref (a + 5 + 2 * j), .null, .int 0, .int 0, .int 0])) := by rw [eh17]; exact (db_sn (by omega)).trans f16
        have f17_2 : h17 (a + 5 + 2 * j) = some (.inr (1, [.ref (a + 6 + 2 * j), .ref (a + 6 + 2 * j + 1), .int 0])) := by rw [eh17]; exact (db_sn (by omega)).trans f16_1
        have f17_3 : h17 (a + 6 + 2 * j + 1) = some (.inl (Γ.2 0, ng, .inl (fun _ => 0))) := by rw [eh17]; exact (db_sn (by omega)).trans f16_2
        have f17_4 : h17 (a + 6 + 2 * j) = some (.inl (Γ.2 0, ng, .inl (fun _ => 0))) := by rw [eh17]; exact (db_sn (by omega)).trans f16_3
        have f17_5 : h17 (a + 3 + 2 * j) = some (.inr (4, [.ref (a + 4 + 2 * j), .int 0])) := by rw [eh17]; exact (db_sn (by omega)).trans f16_4
        have f17_6 : h17 (a + 4 + 2 * j) = some (.inl (Γ.2 3, ns, .inr (.inr (.inr (.inr (fun _ => none)))))) := by rw [eh17]; exact (db_sn (by omega)).trans f16_5
        have f17_7 : h17 (a + 2 + 2 * j) = some (.inl (Γ.2 0, nl, .inl (fun _ => -1))) := by rw [eh17]; exact (db_sn (by omega)).trans f16_6
        have f17_8 : h17 (a + 1) = some (.inl (Γ.2 2, j, .inr (.inr (.inr (.inr (fun p => some (a + 2 + 2 * p))))))) := by rw [eh17]; exact (db_sn (by omega)).trans f16_7
        have fT : ∀ i, i < j → h17 (a + 2 + 2 * i) = some (.inr (5, [.ref (a + 3 + 2 * i), .int 0, .int 0, .int 0, .int 0, .int 0, .int 0, .int 0, .int 0, .int 0, .int 0, .int 0])) := fun i hi => by rw [eh17]; exact (db_sn (by omega)).trans (fT i hi)
        have fJ : ∀ i, i < j → h17 (a + 3 + 2 * i) = some (.inr (0, [.int 0, .int 0, .int 0, .int 0, .int (-1), .int 0, .int 0])) := fun i hi => by rw [eh17]; exact (db_sn (by omega)).trans (fJ i hi)
        refine lv_dup hx hb dX6_init_113 rfl ?_
        refine db_cIN (As := []) (rest := [.ref (a + 8 + 2 * j), .ref a]) hC hW hz (n_X2_init l Γ (a + 8 + 2 * j) _ _ f17) (cw_X2_init (Nat.le_of_ble_eq_true rfl) (Nat.le_of_ble_eq_true rfl)) wn_161 wd_162 rfl rfl hl.1 rfl (Nat.le_of_ble_eq_true rfl) dX6_init_114 ⟨by show (1 + 2 * j) + 1 + 1 + 1 + 1 + 2 + 1 + 1 ≤ 89; omega, by show (j + 19 * j) + nl + 2 + 120 + 3 + 200 + 2 + 100 ≤ 1243; omega⟩ (fun v9 h9 H locs hP9 hW => ?_)
        obtain ⟨rfl, e9, hz⟩ := hP9
        rw [e9] at hW
        refine W.widen (k := (1 + 2 * j) + 1 + 1 + 1 + 1 + 2 + 1 + 1) (n := (j + 19 * j) + nl + 2 + 120 + 3 + 200 + 2 + 100) (Nat.le_refl _) (Nat.le_refl _) ?_
        refine W.eq (g2 := F0 m 117 ls [.ref (a + 8 + 2 * j), .ref a]) rfl ?_
        obtain ⟨h18, eh18⟩ : ∃ w, w = db_set h17 (a + 9 + 2 * j) (.inl (Γ.2 0, 100, .inl (fun _ => 0))) := ⟨_, rfl⟩
        rw [← eh18] at hW
        have f18 : h18 (a + 9 + 2 * j) = some (.inl (Γ.2 0, 100, .inl (fun _ => 0))) := by rw [eh18]; exact db_ss
        have f18_1 : h18 (a + 8 + 2 * j) = some (.inr (2, [.null, .int 0])) := by rw [eh18]; exact (db_sn (by omega)).trans f17
        have f18_2 : h18 a = some (.inr (6, [.ref (a + 1), .ref (a + 2 + 2 * j), .ref (a + 3 + 2 * j), .ref (a + 5 + 2 * j), .null, .int 0, .int 0, .int 0])) := by rw [eh18]; exact (db_sn (by omega)).trans f17_1
        have f18_3 : h18 (a + 5 + 2 * j) = some (.inr (1, [.ref (a + 6 + 2 * j), .ref (a + 6 + 2 * j + 1), .int 0])) := by rw [eh18]; exact (db_sn (by omega)).trans f17_2
        have f18_4 : h18 (a + 6 + 2 * j + 1) = some (.inl (Γ.2 0, ng, .inl (fun _ => 0))) := by rw [eh18]; exact (db_sn (by omega)).trans f17_3
        have f18_5 : h18 (a + 6 + 2 * j) = some (.inl (Γ.2 0, ng, .inl (fun _ => 0))) := by rw [eh18]; exact (db_sn (by omega)).trans f17_4
        have f18_6 : h18 (a + 3 + 2 * j) = some (.inr (4, [.ref (a + 4 + 2 * j), .int 0])) := by rw [eh18]; exact (db_sn (by omega)).trans f17_5
        have f18_7 : h18 (a + 4 + 2 * j) = some (.inl (Γ.2 3, ns, .inr (.inr (.inr (.inr (fun _ => none)))))) := by rw [eh18]; exact (db_sn (by omega)).trans f17_6
        have f18_8 : h18 (a + 2 + 2 * j) = some (.inl (Γ.2 0, nl, .inl (fun _ => -1))) := by rw [eh18]; exact (db_sn (by omega)).trans f17_7
        have f18_9 : h18 (a + 1) = some (.inl (Γ.2 2, j, .inr (.inr (.inr (.inr (fun p => some (a + 2 + 2 * p))))))) := by rw [eh18]; exact (db_sn (by omega)).trans f17_8
        have fT : ∀ i, i < j → h18 (a + 2 + 2 * i) = some (.inr (5, [.ref (a + 3 + 2 * i), .int 0, .int 0, .int 0, .int 0, .int 0, .int 0, .int 0, .int 0, .int 0, .int 0, .int 0])) := fun i hi => by rw [eh18]; exact (db_sn (by omega)).trans (fT i hi)
        have fJ : ∀ i, i < j → h18 (a + 3 + 2 * i) = some (.inr (0, [.int 0, .int 0, .int 0, .int 0, .int (-1), .int 0, .int 0])) := fun i hi => by rw [eh18]; exact (db_sn (by omega)).trans (fJ i hi)
        obtain ⟨h19, eh19⟩ : ∃ w, w = db_set h18 (a + 8 + 2 * j) (.inr (2, [.ref (a + 9 + 2 * j), .int 0])) := ⟨_, rfl⟩
        rw [← eh19] at hW
        have f19 : h19 (a + 8 + 2 * j) = some (.inr (2, [.ref (a + 9 + 2 * j), .int 0])) := by rw [eh19]; exact db_ss
        have f19_1 : h19 (a + 9 + 2 * j) = some (.inl (Γ.2 0, 100, .inl (fun _ => 0))) := by rw [eh19]; exact (db_sn (by omega)).trans f18
        have f19_2 : h19 a = some (.inr (6, [.ref (a + 1), .ref (a + 2 + 2 * j), .ref (a + 3 + 2 * j), .ref (a + 5 + 2 * j), .null, .int 0, .int 0, .int 0])) := by rw [eh19]; exact (db_sn (by omega)).trans f18_2
        have f19_3 : h19 (a + 5 + 2 * j) = some (.inr (1, [.ref (a + 6 + 2 * j), .ref (a + 6 + 2 * j + 1), .int 0])) := by rw [eh19]; exact (db_sn (by omega)).trans f18_3
        have f19_4 : h19 (a + 6 + 2 * j + 1) = some (.inl (Γ.2 0, ng, .inl (fun _ => 0))) := by rw [eh19]; exact (db_sn (by omega)).trans f18_4
        have f19_5 : h19 (a + 6 + 2 * j) = some (.inl (Γ.2 0, ng, .inl (fun _ => 0))) := by rw [eh19]; exact (db_sn (by omega)).trans f18_5
        have f19_6 : h19 (a + 3 + 2 * j) = some (.inr (4, [.ref (a + 4 + 2 * j), .int 0])) := by rw [eh19]; exact (db_sn (by omega)).trans f18_6
        have f19_7 : h19 (a + 4 + 2 * j) = some (.inl (Γ.2 3, ns, .inr (.inr (.inr (.inr (fun _ => none)))))) := by rw [eh19]; exact (db_sn (by omega)).trans f18_7
        have f19_8 : h19 (a + 2 + 2 * j) = some (.inl (Γ.2 0, nl, .inl (fun _ => -1))) := by rw [eh19]; exact (db_sn (by omega)).trans f18_8
        have f19_9 : h19 (a + 1) = some (.inl (Γ.2 2, j, .inr (.inr (.inr (.inr (fun p => some (a + 2 + 2 * p))))))) := by rw [eh19]; exact (db_sn (by omega)).trans f18_9
        have fT : ∀ i, i < j → h19 (a + 2 + 2 * i) = some (.inr (5, [.ref (a + 3 + 2 * i), .int 0, .int 0, .int 0, .int 0, .int 0, .int 0, .int 0, .int 0, .int 0, .int 0, .int 0])) := fun i hi => by rw [eh19]; exact (db_sn (by omega)).trans (fT i hi)
        have fJ : ∀ i, i < j → h19 (a + 3 + 2 * i) = some (.inr (0, [.int 0, .int 0, .int 0, .int 0, .int (-1), .int 0, .int 0])) := fun i hi => by rw [eh19]; exact (db_sn (by omega)).trans (fJ i hi)
        have hz : H.size = a + 10 + 2 * j := by omega
        refine db_putFS hx hb hts hown hK hW f19_2 db_c6 4 (by decide) (hts _ wd_176) rfl hin2 rfl (v := .ref (a + 8 + 2 * j)) rfl rfl (Nat.le_of_ble_eq_true rfl) dX6_init_117 (fun H locs hz1 hW => ?_)
        have hz := hz1.trans hz
        have hW : db_W Γ A s.heap (db_set h19 a (.inr (6, [.ref (a + 1), .ref (a + 2 + 2 * j), .ref (a + 3 + 2 * j), .ref (a + 5 + 2 * j), .ref (a + 8 + 2 * j), .int 0, .int 0, .int 0]))) H locs := hW
        obtain ⟨h20, eh20⟩ : ∃ w, w = db_set h19 a (.inr (6, [.ref (a + 1), .ref (a + 2 + 2 * j), .ref (a + 3 + 2 * j), .ref (a + 5 + 2 * j), .ref (a + 8 + 2 * j), .int 0, .int 0, .int 0])) := ⟨_, rfl⟩
        rw [← eh20] at hW
        have f20 : h20 a = some (.inr (6, [.ref (a + 1), .ref (a + 2 + 2 * j), .ref (a + 3 + 2 * j), .ref (a + 5 + 2 * j), .ref (a + 8 + 2 * j), .int 0, .int 0, .int 0])) := by rw [eh20]; exact db_ss
        have f20_1 : h20 (a + 8 + 2 * j) = some (.inr (2, [.ref (a + 9 + 2 * j), .int 0])) := by rw [eh20]; exact (db_sn (by omega)).trans f19
        have f20_2 : h20 (a + 9 + 2 * j) = some (.inl (Γ.2 0, 100, .inl (fun _ => 0))) := by rw [eh20]; exact (db_sn (by omega)).trans f19_1
        have f20_3 : h20 (a + 5 + 2 * j) = some (.inr (1, [.ref (a + 6 + 2 * j), .ref (a + 6 + 2 * j + 1), .int 0])) := by rw [eh20]; exact (db_sn (by omega)).trans f19_3
        have f20_4 : h20 (a + 6 + 2 * j + 1) = some (.inl (Γ.2 0, ng, .inl (fun _ => 0))) := by rw [eh20]; exact (db_sn (by omega)).trans f19_4
        have f20_5 : h20 (a + 6 + 2 * j) = some (.inl (Γ.2 0, ng, .inl (fun _ => 0))) := by rw [eh20]; exact (db_sn (by omega)).trans f19_5
        have f20_6 : h20 (a + 3 + 2 * j) = some (.inr (4, [.ref (a + 4 + 2 * j), .int 0])) := by rw [eh20]; exact (db_sn (by omega)).trans f19_6
        have f20_7 : h20 (a + 4 + 2 * j) = some (.inl (Γ.2 3, ns, .inr (.inr (.inr (.inr (fun _ => none)))))) := by rw [eh20]; exact (db_sn (by omega)).trans f19_7
        have f20_8 : h20 (a + 2 + 2 * j) = some (.inl (Γ.2 0, nl, .inl (fun _ => -1))) := by rw [eh20]; exact (db_sn (by omega)).trans f19_8
        have f20_9 : h20 (a + 1) = some (.inl (Γ.2 2, j, .inr (.inr (.inr (.inr (fun p => some (a + 2 + 2 * p))))))) := by rw [eh20]; exact (db_sn (by omega)).trans f19_9
        have fT : ∀ i, i < j → h20 (a + 2 + 2 * i) = some (.inr (5, [.ref (a + 3 + 2 * i), .int 0, .int 0, .int 0, .int 0, .int 0, .int 0, .int 0, .int 0, .int 0, .int 0, .int 0])) := fun i hi => by rw [eh20]; exact (db_sn (by omega)).trans (fT i hi)
        have fJ : ∀ i, i < j → h20 (a + 3 + 2 * i) = some (.inr (0, [.int 0, .int 0, .int 0, .int 0, .int (-1), .int 0, .int 0])) := fun i hi => by rw [eh20]; exact (db_sn (by omega)).trans (fJ i hi)
        refine lv_aload_n hx hb dX6_init_120 rfl (lv_at hl 0 rfl) ?_
        refine lv_iload hx hb dX6_init_121 (lv_at hl 5 rfl) ?_
        refine lv_iconst (v := 1) hx hb dX6_init_123 (by decide) ?_
        refine lv_sipush (v := 20000) hx hb dX6_init_124 (by decide) ?_
        refine db_cSO (As := [.int la0, .int 1, .int 20000]) (rest := [.ref a]) hC hW hz (n_X6_nearest l Γ _ _ la0 1 20000 (by decide) (by decide)) (cw_X6_nearest (Nat.le_of_ble_eq_true rfl) (Nat.le_of_ble_eq_true rfl)) wd_19 wd_20 rfl hl.1 rfl (Nat.le_of_ble_eq_true rfl) dX6_init_127 ⟨by show (1 + 2 * j) + 1 + 1 + 1 + 1 + 2 + 1 + 1 + 0 ≤ 89; omega, by show (j + 19 * j) + nl + 2 + 120 + 3 + 200 + 2 + 100 + 0 ≤ 1243; omega⟩ (fun v9 h9 H locs hP9 hW => ?_)
        obtain ⟨rfl, e9, hz⟩ := hP9
        rw [e9] at hW
        refine W.widen (k := (1 + 2 * j) + 1 + 1 + 1 + 1 + 2 + 1 + 1) (n := (j + 19 * j) + nl + 2 + 120 + 3 + 200 + 2 + 100) (Nat.le_refl _) (Nat.le_refl _) ?_
        refine W.eq (g2 := F0 m 130 ls [.int (nI la), .ref a]) (by rw [e5]; rfl) ?_
        refine db_putFS hx hb hts hown hK hW f20 db_c6 5 (by decide) (hts _ wd_177) rfl hin2 rfl (v := .int (nI la)) rfl rfl (Nat.le_of_ble_eq_true rfl) dX6_init_130 (fun H locs hz1 hW => ?_)
        have hz := hz1.trans hz
        have hW : db_W Γ A s.heap (db_set h20 a (.inr (6, [.ref (a + 1), .ref (a + 2 + 2 * j), .ref (a + 3 + 2 * j), .ref (a + 5 + 2 * j), .ref (a + 8 + 2 * j), .int (nI la), .int 0, .int 0]))) H locs := hW
        obtain ⟨h21, eh21⟩ : ∃ w, w = db_set h20 a (.inr (6, [.ref (a + 1), .ref (a + 2 + 2 * j), .ref (a + 3 + 2 * j), .ref (a + 5 + 2 * j), .ref (a + 8 + 2 * j), .int (nI la), .int 0, .int 0])) := ⟨_, rfl⟩
        rw [← eh21] at hW
        have f21 : h21 a = some (.inr (6, [.ref (a + 1), .ref (a + 2 + 2 * j), .ref (a + 3 + 2 * j), .ref (a + 5 + 2 * j), .ref (a + 8 + 2 * j), .int (nI la), .int 0, .int 0])) := by rw [eh21]; exact db_ss
        have f21_1 : h21 (a + 8 + 2 * j) = some (.inr (2, [.ref (a + 9 + 2 * j), .int 0])) := by rw [eh21]; exact (db_sn (by omega)).trans f20_1
        have f21_2 : h21 (a + 9 + 2 * j) = some (.inl (Γ.2 0, 100, .inl (fun _ => 0))) := by rw [eh21]; exact (db_sn (by omega)).trans f20_2
        have f21_3 : h21 (a + 5 + 2 * j) = some (.inr (1, [.ref (a + 6 + 2 * j), .ref (a + 6 + 2 * j + 1), .int 0])) := by rw [eh21]; exact (db_sn (by omega)).trans f20_3
        have f21_4 : h21 (a + 6 + 2 * j + 1) = some (.inl (Γ.2 0, ng, .inl (fun _ => 0))) := by rw [eh21]; exact (db_sn (by omega)).trans f20_4
        have f21_5 : h21 (a + 6 + 2 * j) = some (.inl (Γ.2 0, ng, .inl (fun _ => 0))) := by rw [eh21]; exact (db_sn (by omega)).trans f20_5
        have f21_6 : h21 (a + 3 + 2 * j) = some (.inr (4, [.ref (a + 4 + 2 * j), .int 0])) := by rw [eh21]; exact (db_sn (by omega)).trans f20_6
        have f21_7 : h21 (a + 4 + 2 * j) = some (.inl (Γ.2 3, ns, .inr (.inr (.inr (.inr (fun _ => none)))))) := by rw [eh21]; exact (db_sn (by omega)).trans f20_7
        have f21_8 : h21 (a + 2 + 2 * j) = some (.inl (Γ.2 0, nl, .inl (fun _ => -1))) := by rw [eh21]; exact (db_sn (by omega)).trans f20_8
        have f21_9 : h21 (a + 1) = some (.inl (Γ.2 2, j, .inr (.inr (.inr (.inr (fun p => some (a + 2 + 2 * p))))))) := by rw [eh21]; exact (db_sn (by omega)).trans f20_9
        have fT : ∀ i, i < j → h21 (a + 2 + 2 * i) = some (.inr (5, [.ref (a + 3 + 2 * i), .int 0, .int 0, .int 0, .int 0, .int 0, .int 0, .int 0, .int 0, .int 0, .int 0, .int 0])) := fun i hi => by rw [eh21]; exact (db_sn (by omega)).trans (fT i hi)
        have fJ : ∀ i, i < j → h21 (a + 3 + 2 * i) = some (.inr (0, [.int 0, .int 0, .int 0, .int 0, .int (-1), .int 0, .int 0])) := fun i hi => by rw [eh21]; exact (db_sn (by omega)).trans (fJ i hi)
        have h6x := f21_3
        rw [show a + 6 + 2 * j + 1 = a + 7 + 2 * j by omega] at h6x
        refine W.widen (k := 89) (n := 1243) (by omega) (by omega) (W.mono hQ ?_)
        exact W.vret hx hb hr (fun t9 ht9 _ => hret _ _ _ none hW ⟨rfl, bb_L0 a j, rfl, bb_R0 f21 f21_9 fT fJ f21_8 f21_6 f21_7 h6x f21_5 (by rw [show a + 7 + 2 * j = a + 6 + 2 * j + 1 by omega]; exact f21_4) f21_1 f21_2⟩ t9 ht9) hW.2.2.1.2.2 dX6_init_133 hlocks
      · have hj : j < n := by
          rcases Nat.lt_or_ge j n with q9 | q9
          · exact q9
          · exact absurd (nI_le q9 (by omega)) c28
        refine lv_aload_n hx hb dX6_init_31 rfl (lv_at hl 0 rfl) ?_
        refine db_getR hx hb hts hown hK hW.1 fb1 db_c6 0 (by decide) (hts _ wd_172) rfl dX6_init_32 ?_
        refine lv_iload hx hb dX6_init_35 (lv_at hl 6 rfl) ?_
        refine db_newR hx hb hts hown hK hW db_c5 wd_28 wd_30 wd_3 (fs := [.null, .int 0, .int 0, .int 0, .int 0, .int 0, .int 0, .int 0, .int 0, .int 0, .int 0, .int 0]) (by decide +kernel) (by show (1 + 2 * j) + 1 ≤ 89; omega) (by show (n + 19 * j) + 12 ≤ 1243; omega) dX6_init_37 hz (fun H hW hno hz => ?_)
        have hz : H.size = a + 3 + 2 * j := by omega
        obtain ⟨h22, eh22⟩ : ∃ w, w = db_set h (a + 2 + 2 * j) (.inr (5, [.null, .int 0, .int 0, .int 0, .int 0, .int 0, .int 0, .int 0, .int 0, .int 0, .int 0, .int 0])) := ⟨_, rfl⟩
        rw [← eh22] at hW
        have f22 : h22 (a + 2 + 2 * j) = some (.inr (5, [.null, .int 0, .int 0, .int 0, .int 0, .int 0, .int 0, .int 0, .int 0, .int 0, .int 0, .int 0])) := by rw [eh22]; exact db_ss
        have f22_1 : h22 a = some (.inr (6, [.ref (a + 1), .null, .null, .null, .null, .int 0, .int 0, .int 0])) := by rw [eh22]; exact (db_sn (by omega)).trans fb1
        have f22_2 : h22 (a + 1) = some (.inl (Γ.2 2, n, .inr (.inr (.inr (.inr (fun p => if p < j then some (a + 2 + 2 * p) else none)))))) := by rw [eh22]; exact (db_sn (by omega)).trans fb2
        have fT : ∀ i, i < j → h22 (a + 2 + 2 * i) = some (.inr (5, [.ref (a + 3 + 2 * i), .int 0, .int 0, .int 0, .int 0, .int 0, .int 0, .int 0, .int 0, .int 0, .int 0, .int 0])) := fun i hi => by rw [eh22]; exact (db_sn (by omega)).trans (fT i hi)
        have fJ : ∀ i, i < j → h22 (a + 3 + 2 * i) = some (.inr (0, [.int 0, .int 0, .int 0, .int 0, .int (-1), .int 0, .int 0])) := fun i hi => by rw [eh22]; exact (db_sn (by omega)).trans (fJ i hi)
        refine lv_dup hx hb dX6_init_40 rfl ?_
        refine db_cIN (As := []) (rest := [.ref (a + 2 + 2 * j), .int (nI j), .ref (a + 1)]) hC hW hz (n_X5_init l Γ (a + 2 + 2 * j) _ _ f22) (cw_X5_init (Nat.le_of_ble_eq_true rfl) (Nat.le_of_ble_eq_true rfl)) wn_31 wd_32 rfl rfl hl.1 rfl (Nat.le_of_ble_eq_true rfl) dX6_init_41 ⟨by show (1 + 2 * j) + 1 + 1 ≤ 89; omega, by show (n + 19 * j) + 12 + 7 ≤ 1243; omega⟩ (fun v9 h9 H locs hP9 hW => ?_)
        obtain ⟨rfl, e9, hz⟩ := hP9
        rw [e9] at hW
        refine W.widen (k := (1 + 2 * j) + 1 + 1) (n := (n + 19 * j) + 12 + 7) (Nat.le_refl _) (Nat.le_refl _) ?_
        refine W.eq (g2 := F0 m 44 ls [.ref (a + 2 + 2 * j), .int (nI j), .ref (a + 1)]) rfl ?_
        obtain ⟨h23, eh23⟩ : ∃ w, w = db_set h22 (a + 3 + 2 * j) (.inr (0, [.int 0, .int 0, .int 0, .int 0, .int 0, .int 0, .int 0])) := ⟨_, rfl⟩
        rw [← eh23] at hW
        have f23 : h23 (a + 3 + 2 * j) = some (.inr (0, [.int 0, .int 0, .int 0, .int 0, .int 0, .int 0, .int 0])) := by rw [eh23]; exact db_ss
        have f23_1 : h23 (a + 2 + 2 * j) = some (.inr (5, [.null, .int 0, .int 0, .int 0, .int 0, .int 0, .int 0, .int 0, .int 0, .int 0, .int 0, .int 0])) := by rw [eh23]; exact (db_sn (by omega)).trans f22
        have f23_2 : h23 a = some (.inr (6, [.ref (a + 1), .null, .null, .null, .null, .int 0, .int 0, .int 0])) := by rw [eh23]; exact (db_sn (by omega)).trans f22_1
        have f23_3 : h23 (a + 1) = some (.inl (Γ.2 2, n, .inr (.inr (.inr (.inr (fun p => if p < j then some (a + 2 + 2 * p) else none)))))) := by rw [eh23]; exact (db_sn (by omega)).trans f22_2
        have fT : ∀ i, i < j → h23 (a + 2 + 2 * i) = some (.inr (5, [.ref (a + 3 + 2 * i), .int 0, .int 0, .int 0, .int 0, .int 0, .int 0, .int 0, .int 0, .int 0, .int 0, .int 0])) := fun i hi => by rw [eh23]; exact (db_sn (by omega)).trans (fT i hi)
        have fJ : ∀ i, i < j → h23 (a + 3 + 2 * i) = some (.inr (0, [.int 0, .int 0, .int 0, .int 0, .int (-1), .int 0, .int 0])) := fun i hi => by rw [eh23]; exact (db_sn (by omega)).trans (fJ i hi)
        obtain ⟨h24, eh24⟩ : ∃ w, w = db_set h23 (a + 3 + 2 * j) (.inr (0, [.int 0, .int 0, .int 0, .int 0, .int (-1), .int 0, .int 0])) := ⟨_, rfl⟩
        rw [← eh24] at hW
        have f24 : h24 (a + 3 + 2 * j) = some (.inr (0, [.int 0, .int 0, .int 0, .int 0, .int (-1), .int 0, .int 0])) := by rw [eh24]; exact db_ss
        have f24_1 : h24 (a + 2 + 2 * j) = some (.inr (5, [.null, .int 0, .int 0, .int 0, .int 0, .int 0, .int 0, .int 0, .int 0, .int 0, .int 0, .int 0])) := by rw [eh24]; exact (db_sn (by omega)).trans f23_1
        have f24_2 : h24 a = some (.inr (6, [.ref (a + 1), .null, .null, .null, .null, .int 0, .int 0, .int 0])) := by rw [eh24]; exact (db_sn (by omega)).trans f23_2
        have f24_3 : h24 (a + 1) = some (.inl (Γ.2 2, n, .inr (.inr (.inr (.inr (fun p => if p < j then some (a + 2 + 2 * p) else none)))))) := by rw [eh24]; exact (db_sn (by omega)).trans f23_3
        have fT : ∀ i, i < j → h24 (a + 2 + 2 * i) = some (.inr (5, [.ref (a + 3 + 2 * i), .int 0, .int 0, .int 0, .int 0, .int 0, .int 0, .int 0, .int 0, .int 0, .int 0, .int 0])) := fun i hi => by rw [eh24]; exact (db_sn (by omega)).trans (fT i hi)
        have fJ : ∀ i, i < j → h24 (a + 3 + 2 * i) = some (.inr (0, [.int 0, .int 0, .int 0, .int 0, .int (-1), .int 0, .int 0])) := fun i hi => by rw [eh24]; exact (db_sn (by omega)).trans (fJ i hi)
        obtain ⟨h25, eh25⟩ : ∃ w, w = db_set h24 (a + 2 + 2 * j) (.inr (5, [.ref (a + 3 + 2 * j), .int 0, .int 0, .int 0, .int 0, .int 0, .int 0, .int 0, .int 0, .int 0, .int 0, .int 0])) := ⟨_, rfl⟩
        rw [← eh25] at hW
        have f25 : h25 (a + 2 + 2 * j) = some (.inr (5, [.ref (a + 3 + 2 * j), .int 0, .int 0, .int 0, .int 0, .int 0, .int 0, .int 0, .int 0, .int 0, .int 0, .int 0])) := by rw [eh25]; exact db_ss
        have f25_1 : h25 (a + 3 + 2 * j) = some (.inr (0, [.int 0, .int 0, .int 0, .int 0, .int (-1), .int 0, .int 0])) := by rw [eh25]; exact (db_sn (by omega)).trans f24
        have f25_2 : h25 a = some (.inr (6, [.ref (a + 1), .null, .null, .null, .null, .int 0, .int 0, .int 0])) := by rw [eh25]; exact (db_sn (by omega)).trans f24_2
        have f25_3 : h25 (a + 1) = some (.inl (Γ.2 2, n, .inr (.inr (.inr (.inr (fun p => if p < j then some (a + 2 + 2 * p) else none)))))) := by rw [eh25]; exact (db_sn (by omega)).trans f24_3
        have fT : ∀ i, i < j → h25 (a + 2 + 2 * i) = some (.inr (5, [.ref (a + 3 + 2 * i), .int 0, .int 0, .int 0, .int 0, .int 0, .int 0, .int 0, .int 0, .int 0, .int 0, .int 0])) := fun i hi => by rw [eh25]; exact (db_sn (by omega)).trans (fT i hi)
        have fJ : ∀ i, i < j → h25 (a + 3 + 2 * i) = some (.inr (0, [.int 0, .int 0, .int 0, .int 0, .int (-1), .int 0, .int 0])) := fun i hi => by rw [eh25]; exact (db_sn (by omega)).trans (fJ i hi)
        have hz : H.size = a + 4 + 2 * j := by omega
        refine db_astS hx hb hK hW (r := (RX5, TX5, 12)) (ci := 5) 2 rfl rfl f25_3 f25 rfl hj (by omega) dX6_init_44 (fun H locs hz1 hW => ?_)
        have hz := hz1.trans hz
        rw [bb_rowup] at hW
        obtain ⟨h26, eh26⟩ : ∃ w, w = db_set h25 (a + 1) (.inl (Γ.2 2, n, .inr (.inr (.inr (.inr (fun p => if p < j + 1 then some (a + 2 + 2 * p) else none)))))) := ⟨_, rfl⟩
        rw [← eh26] at hW
        have f26 : h26 (a + 1) = some (.inl (Γ.2 2, n, .inr (.inr (.inr (.inr (fun p => if p < j + 1 then some (a + 2 + 2 * p) else none)))))) := by rw [eh26]; exact db_ss
        have f26_1 : h26 (a + 2 + 2 * j) = some (.inr (5, [.ref (a + 3 + 2 * j), .int 0, .int 0, .int 0, .int 0, .int 0, .int 0, .int 0, .int 0, .int 0, .int 0, .int 0])) := by rw [eh26]; exact (db_sn (by omega)).trans f25
        have f26_2 : h26 (a + 3 + 2 * j) = some (.inr (0, [.int 0, .int 0, .int 0, .int 0, .int (-1), .int 0, .int 0])) := by rw [eh26]; exact (db_sn (by omega)).trans f25_1
        have f26_3 : h26 a = some (.inr (6, [.ref (a + 1), .null, .null, .null, .null, .int 0, .int 0, .int 0])) := by rw [eh26]; exact (db_sn (by omega)).trans f25_2
        have fT : ∀ i, i < j → h26 (a + 2 + 2 * i) = some (.inr (5, [.ref (a + 3 + 2 * i), .int 0, .int 0, .int 0, .int 0, .int 0, .int 0, .int 0, .int 0, .int 0, .int 0, .int 0])) := fun i hi => by rw [eh26]; exact (db_sn (by omega)).trans (fT i hi)
        have fJ : ∀ i, i < j → h26 (a + 3 + 2 * i) = some (.inr (0, [.int 0, .int 0, .int 0, .int 0, .int (-1), .int 0, .int 0])) := fun i hi => by rw [eh26]; exact (db_sn (by omega)).trans (fJ i hi)
        refine lv_iinc (v := (nI (j + 1))) (lv' := [(6, .int (nI (j + 1))), (0, .ref a), (1, .int t), (2, .int lk), (3, .int se), (4, .int lg), (5, .int la0)]) hx hb dX6_init_45 hl (k := 6) rfl (nI_1 _) (by decide) rfl (fun ls hl => ?_)
        refine lv_goto (tgt := 21) hx hb dX6_init_48 (by decide) ?_
        refine W.widen (k := 1 + 2 * (j + 1)) (n := n + 19 * (j + 1)) (by omega) (by omega) ?_
        exact ih (j + 1) (by omega) hj h26 f26_3 f26 (bb_famS fT f26_1) (bb_famS fJ f26_2) _ _ (by omega) hW _ (lv_sub hl [1, 2, 3, 4, 5, 6, 0] rfl)
  have hW := hW.qext f2_1 (g := fun p => if p < 0 then some (a + 2 + 2 * p) else none) (fun j hj => by simp)
  obtain ⟨h27, eh27⟩ : ∃ w, w = db_set h2 (a + 1) (.inl (Γ.2 2, n, .inr (.inr (.inr (.inr (fun p => if p < 0 then some (a + 2 + 2 * p) else none)))))) := ⟨_, rfl⟩
  rw [← eh27] at hW
  have f27 : h27 (a + 1) = some (.inl (Γ.2 2, n, .inr (.inr (.inr (.inr (fun p => if p < 0 then some (a + 2 + 2 * p) else none)))))) := by rw [eh27]; exact db_ss
  have f27_1 : h27 a = some (.inr (6, [.ref (a + 1), .null, .null, .null, .null, .int 0, .int 0, .int 0])) := by rw [eh27]; exact (db_sn (by omega)).trans f2
  refine W.widen (k := 1 + 2 * 0) (n := n + 19 * 0) (by omega) (by omega) ?_
  exact K21 _ 0 (Nat.le_refl _) (Nat.zero_le _) h27 f27_1 f27 (fun i hi => absurd hi (by omega)) (fun i hi => absurd hi (by omega)) _ _ hz hW _ (lv_sub hl [1, 2, 3, 4, 5, 6, 0] rfl)
