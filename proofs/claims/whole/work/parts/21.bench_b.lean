set_option maxHeartbeats 4000000 in
set_option maxRecDepth 100000 in
theorem c_X0_begin (l : Launch) (Γ : db_G) (N : Nat → Nat) (L : Nat → Nat → Nat) (cnt : Nat) (X : db_X) (hN : bb_N N) (r : Int32) (d : Int32) (i : Nat) (hi : i < N 0) : db_C l Γ yX0_begin cX0_begin 3 (none) (db_rm 0 0) [.ref (L 2 i), .int r, .int d] L (bb_ok (N 0) cnt) (bb_cel Γ N L) X none (bb_begin X i r d) := by
  have hn0 : N 0 < 2 ^ 31 := by have := hN.2.1; omega
  have hn1 : N 1 < 2 ^ 31 := by have := hN.2.2.1; omega
  have hn2 : N 2 < 2 ^ 31 := by have := hN.2.2.2.1; omega
  have hn3 : N 3 < 2 ^ 31 := by have := hN.2.2.2.2; omega
  refine db_introV (by decide +kernel) (Nat.le_of_ble_eq_true rfl) ?_
  intro p e s m args below meth c A Q ls hC hS hl hret
  have hC : db_Cx p s m args meth c Γ RX0 cX0_begin 3 (none) := hC
  obtain ⟨hx, hb, hml, hr, hlocks, hown, hts, hK⟩ := id hC
  have hl : lv_has ls 3 [(0, .ref (L 2 i)), (1, .int r), (2, .int d)] := hl
  refine lv_aload_n hx hb dX0_begin_0 rfl (lv_at hl 0 rfl) ?_
  refine lv_iconst (v := 1) hx hb dX0_begin_1 (by decide) ?_
  refine db_put hx hb hts hown hK hS 2 i (bb_kJ hi) rfl db_c0 0 (by decide) wd_41 rfl (db_nz (Or.inr rfl)) (db_fz (Or.inr rfl)) (Nat.le_of_ble_eq_true rfl) rfl dX0_begin_2 (fun H locs hS => ?_)
  obtain ⟨X1, eX1⟩ : ∃ z, z = db_up X 2 i 0 1 := ⟨_, rfl⟩
  rw [← eX1] at hS
  refine lv_aload_n hx hb dX0_begin_5 rfl (lv_at hl 0 rfl) ?_
  refine lv_iload_n hx hb dX0_begin_6 rfl (lv_at hl 1 rfl) ?_
  refine db_put hx hb hts hown hK hS 2 i (bb_kJ hi) rfl db_c0 1 (by decide) wd_44 rfl rfl rfl (Nat.le_of_ble_eq_true rfl) rfl dX0_begin_7 (fun H locs hS => ?_)
  obtain ⟨X2, eX2⟩ : ∃ z, z = db_up X1 2 i 1 r := ⟨_, rfl⟩
  rw [← eX2] at hS
  refine lv_aload_n hx hb dX0_begin_10 rfl (lv_at hl 0 rfl) ?_
  refine lv_iload_n hx hb dX0_begin_11 rfl (lv_at hl 2 rfl) ?_
  refine db_put hx hb hts hown hK hS 2 i (bb_kJ hi) rfl db_c0 2 (by decide) wd_46 rfl rfl rfl (Nat.le_of_ble_eq_true rfl) rfl dX0_begin_12 (fun H locs hS => ?_)
  obtain ⟨X3, eX3⟩ : ∃ z, z = db_up X2 2 i 2 d := ⟨_, rfl⟩
  rw [← eX3] at hS
  refine lv_aload_n hx hb dX0_begin_15 rfl (lv_at hl 0 rfl) ?_
  refine lv_iconst (v := 0) hx hb dX0_begin_16 (by decide) ?_
  refine db_put hx hb hts hown hK hS 2 i (bb_kJ hi) rfl db_c0 3 (by decide) wd_48 rfl rfl rfl (Nat.le_of_ble_eq_true rfl) rfl dX0_begin_17 (fun H locs hS => ?_)
  obtain ⟨X4, eX4⟩ : ∃ z, z = db_up X3 2 i 3 0 := ⟨_, rfl⟩
  rw [← eX4] at hS
  refine lv_aload_n hx hb dX0_begin_20 rfl (lv_at hl 0 rfl) ?_
  refine lv_iconst (v := -1) hx hb dX0_begin_21 (by decide) ?_
  refine db_put hx hb hts hown hK hS 2 i (bb_kJ hi) rfl db_c0 4 (by decide) wd_50 rfl rfl rfl (Nat.le_of_ble_eq_true rfl) rfl dX0_begin_22 (fun H locs hS => ?_)
  obtain ⟨X5, eX5⟩ : ∃ z, z = db_up X4 2 i 4 (-1) := ⟨_, rfl⟩
  rw [← eX5] at hS
  refine lv_aload_n hx hb dX0_begin_25 rfl (lv_at hl 0 rfl) ?_
  refine lv_iconst (v := 0) hx hb dX0_begin_26 (by decide) ?_
  refine db_put hx hb hts hown hK hS 2 i (bb_kJ hi) rfl db_c0 6 (by decide) wd_53 rfl (db_nz (Or.inl rfl)) (db_fz (Or.inl rfl)) (Nat.le_of_ble_eq_true rfl) rfl dX0_begin_27 (fun H locs hS => ?_)
  obtain ⟨X6, eX6⟩ : ∃ z, z = db_up X5 2 i 6 0 := ⟨_, rfl⟩
  rw [← eX6] at hS
  exact hret _ _ _ _ _ hS (by rw [eX6, eX5, eX4, eX3, eX2, eX1]; rfl) dX0_begin_30

set_option maxHeartbeats 4000000 in
set_option maxRecDepth 100000 in
theorem c_X5_enter (l : Launch) (Γ : db_G) (N : Nat → Nat) (L : Nat → Nat → Nat) (cnt : Nat) (X : db_X) (hN : bb_N N) (p1 : Int32) (w : Int32) (d : Int32) (n : Int32) (i : Nat) (hi : i < N 0) : db_C l Γ yX5_enter cX5_enter 5 (none) (db_rm 0 0) [.ref (L 1 i), .int p1, .int w, .int d, .int n] L (bb_ok (N 0) cnt) (bb_cel Γ N L) X none (bb_enter X i p1 w d n) := by
  have hn0 : N 0 < 2 ^ 31 := by have := hN.2.1; omega
  have hn1 : N 1 < 2 ^ 31 := by have := hN.2.2.1; omega
  have hn2 : N 2 < 2 ^ 31 := by have := hN.2.2.2.1; omega
  have hn3 : N 3 < 2 ^ 31 := by have := hN.2.2.2.2; omega
  refine db_introV (by decide +kernel) (Nat.le_of_ble_eq_true rfl) ?_
  intro p e s m args below meth c A Q ls hC hS hl hret
  have hC : db_Cx p s m args meth c Γ RX5 cX5_enter 5 (none) := hC
  obtain ⟨hx, hb, hml, hr, hlocks, hown, hts, hK⟩ := id hC
  have hl : lv_has ls 5 [(0, .ref (L 1 i)), (1, .int p1), (2, .int w), (3, .int d), (4, .int n)] := hl
  refine lv_aload_n hx hb dX5_enter_0 rfl (lv_at hl 0 rfl) ?_
  refine lv_iconst (v := 1) hx hb dX5_enter_1 (by decide) ?_
  refine db_put hx hb hts hown hK hS 1 i (bb_kT hi) rfl db_c5 1 (by decide) wd_72 rfl (db_nz (Or.inr rfl)) (db_fz (Or.inr rfl)) (Nat.le_of_ble_eq_true rfl) rfl dX5_enter_2 (fun H locs hS => ?_)
  obtain ⟨X1, eX1⟩ : ∃ z, z = db_up X 1 i 1 1 := ⟨_, rfl⟩
  rw [← eX1] at hS
  refine lv_aload_n hx hb dX5_enter_5 rfl (lv_at hl 0 rfl) ?_
  refine lv_iload_n hx hb dX5_enter_6 rfl (lv_at hl 1 rfl) ?_
  refine db_put hx hb hts hown hK hS 1 i (bb_kT hi) rfl db_c5 2 (by decide) wd_74 rfl rfl rfl (Nat.le_of_ble_eq_true rfl) rfl dX5_enter_7 (fun H locs hS => ?_)
  obtain ⟨X2, eX2⟩ : ∃ z, z = db_up X1 1 i 2 p1 := ⟨_, rfl⟩
  rw [← eX2] at hS
  refine lv_aload_n hx hb dX5_enter_10 rfl (lv_at hl 0 rfl) ?_
  refine lv_iload_n hx hb dX5_enter_11 rfl (lv_at hl 2 rfl) ?_
  refine db_put hx hb hts hown hK hS 1 i (bb_kT hi) rfl db_c5 3 (by decide) wd_76 rfl rfl rfl (Nat.le_of_ble_eq_true rfl) rfl dX5_enter_12 (fun H locs hS => ?_)
  obtain ⟨X3, eX3⟩ : ∃ z, z = db_up X2 1 i 3 w := ⟨_, rfl⟩
  rw [← eX3] at hS
  refine lv_aload_n hx hb dX5_enter_15 rfl (lv_at hl 0 rfl) ?_
  refine lv_iload_n hx hb dX5_enter_16 rfl (lv_at hl 3 rfl) ?_
  refine db_put hx hb hts hown hK hS 1 i (bb_kT hi) rfl db_c5 4 (by decide) wd_78 rfl rfl rfl (Nat.le_of_ble_eq_true rfl) rfl dX5_enter_17 (fun H locs hS => ?_)
  obtain ⟨X4, eX4⟩ : ∃ z, z = db_up X3 1 i 4 d := ⟨_, rfl⟩
  rw [← eX4] at hS
  refine lv_aload_n hx hb dX5_enter_20 rfl (lv_at hl 0 rfl) ?_
  refine lv_iload hx hb dX5_enter_21 (lv_at hl 4 rfl) ?_
  refine db_put hx hb hts hown hK hS 1 i (bb_kT hi) rfl db_c5 5 (by decide) wd_80 rfl rfl rfl (Nat.le_of_ble_eq_true rfl) rfl dX5_enter_23 (fun H locs hS => ?_)
  obtain ⟨X5, eX5⟩ : ∃ z, z = db_up X4 1 i 5 n := ⟨_, rfl⟩
  rw [← eX5] at hS
  refine lv_aload_n hx hb dX5_enter_26 rfl (lv_at hl 0 rfl) ?_
  refine lv_iconst (v := 0) hx hb dX5_enter_27 (by decide) ?_
  refine db_put hx hb hts hown hK hS 1 i (bb_kT hi) rfl db_c5 6 (by decide) wd_82 rfl rfl rfl (Nat.le_of_ble_eq_true rfl) rfl dX5_enter_28 (fun H locs hS => ?_)
  obtain ⟨X6, eX6⟩ : ∃ z, z = db_up X5 1 i 6 0 := ⟨_, rfl⟩
  rw [← eX6] at hS
  refine lv_aload_n hx hb dX5_enter_31 rfl (lv_at hl 0 rfl) ?_
  refine lv_iconst (v := 0) hx hb dX5_enter_32 (by decide) ?_
  refine db_put hx hb hts hown hK hS 1 i (bb_kT hi) rfl db_c5 7 (by decide) wd_84 rfl rfl rfl (Nat.le_of_ble_eq_true rfl) rfl dX5_enter_33 (fun H locs hS => ?_)
  obtain ⟨X7, eX7⟩ : ∃ z, z = db_up X6 1 i 7 0 := ⟨_, rfl⟩
  rw [← eX7] at hS
  refine lv_aload_n hx hb dX5_enter_36 rfl (lv_at hl 0 rfl) ?_
  refine lv_iconst (v := 0) hx hb dX5_enter_37 (by decide) ?_
  refine db_put hx hb hts hown hK hS 1 i (bb_kT hi) rfl db_c5 8 (by decide) wd_86 rfl rfl rfl (Nat.le_of_ble_eq_true rfl) rfl dX5_enter_38 (fun H locs hS => ?_)
  obtain ⟨X8, eX8⟩ : ∃ z, z = db_up X7 1 i 8 0 := ⟨_, rfl⟩
  rw [← eX8] at hS
  refine lv_aload_n hx hb dX5_enter_41 rfl (lv_at hl 0 rfl) ?_
  refine lv_iconst (v := 0) hx hb dX5_enter_42 (by decide) ?_
  refine db_put hx hb hts hown hK hS 1 i (bb_kT hi) rfl db_c5 9 (by decide) wd_88 rfl rfl rfl (Nat.le_of_ble_eq_true rfl) rfl dX5_enter_43 (fun H locs hS => ?_)
  obtain ⟨X9, eX9⟩ : ∃ z, z = db_up X8 1 i 9 0 := ⟨_, rfl⟩
  rw [← eX9] at hS
  refine lv_aload_n hx hb dX5_enter_46 rfl (lv_at hl 0 rfl) ?_
  refine lv_iconst (v := 0) hx hb dX5_enter_47 (by decide) ?_
  refine db_put hx hb hts hown hK hS 1 i (bb_kT hi) rfl db_c5 10 (by decide) wd_90 rfl rfl rfl (Nat.le_of_ble_eq_true rfl) rfl dX5_enter_48 (fun H locs hS => ?_)
  obtain ⟨X10, eX10⟩ : ∃ z, z = db_up X9 1 i 10 0 := ⟨_, rfl⟩
  rw [← eX10] at hS
  refine lv_aload_n hx hb dX5_enter_51 rfl (lv_at hl 0 rfl) ?_
  refine lv_iconst (v := 0) hx hb dX5_enter_52 (by decide) ?_
  refine db_put hx hb hts hown hK hS 1 i (bb_kT hi) rfl db_c5 11 (by decide) wd_92 rfl rfl rfl (Nat.le_of_ble_eq_true rfl) rfl dX5_enter_53 (fun H locs hS => ?_)
  obtain ⟨X11, eX11⟩ : ∃ z, z = db_up X10 1 i 11 0 := ⟨_, rfl⟩
  rw [← eX11] at hS
  exact hret _ _ _ _ _ hS (by rw [eX11, eX10, eX9, eX8, eX7, eX6, eX5, eX4, eX3, eX2, eX1]; rfl) dX5_enter_56

set_option maxHeartbeats 4000000 in
set_option maxRecDepth 100000 in
theorem c_X5_releaseJob (l : Launch) (Γ : db_G) (N : Nat → Nat) (L : Nat → Nat → Nat) (cnt : Nat) (X : db_X) (hN : bb_N N) (i : Nat) (hi : i < N 0) : db_C l Γ yX5_releaseJob cX5_releaseJob 1 (none) (db_rm 1 22) [.ref (L 1 i)] L (bb_ok (N 0) cnt) (bb_cel Γ N L) X none (bb_rel X i) := by
  have hn0 : N 0 < 2 ^ 31 := by have := hN.2.1; omega
  have hn1 : N 1 < 2 ^ 31 := by have := hN.2.2.1; omega
  have hn2 : N 2 < 2 ^ 31 := by have := hN.2.2.2.1; omega
  have hn3 : N 3 < 2 ^ 31 := by have := hN.2.2.2.2; omega
  refine db_introV (by decide +kernel) (Nat.le_of_ble_eq_true rfl) ?_
  intro p e s m args below meth c A Q ls hC hS hl hret
  have hC : db_Cx p s m args meth c Γ RX5 cX5_releaseJob 1 (none) := hC
  obtain ⟨hx, hb, hml, hr, hlocks, hown, hts, hK⟩ := id hC
  have hl : lv_has ls 1 [(0, .ref (L 1 i))] := hl
  refine lv_aload_n hx hb dX5_releaseJob_0 rfl (lv_at hl 0 rfl) ?_
  refine db_get hx hb hts hown hK hS 1 i (bb_kT hi) rfl db_c5 0 (by decide) wd_70 rfl dX5_releaseJob_1 ?_
  refine lv_aload_n hx hb dX5_releaseJob_4 rfl (lv_at hl 0 rfl) ?_
  refine db_get hx hb hts hown hK hS 1 i (bb_kT hi) rfl db_c5 5 (by decide) wd_80 rfl dX5_releaseJob_5 ?_
  refine lv_aload_n hx hb dX5_releaseJob_8 rfl (lv_at hl 0 rfl) ?_
  refine db_get hx hb hts hown hK hS 1 i (bb_kT hi) rfl db_c5 5 (by decide) wd_80 rfl dX5_releaseJob_9 ?_
  refine lv_aload_n hx hb dX5_releaseJob_12 rfl (lv_at hl 0 rfl) ?_
  refine db_get hx hb hts hown hK hS 1 i (bb_kT hi) rfl db_c5 4 (by decide) wd_78 rfl dX5_releaseJob_13 ?_
  refine lv_iadd hx hb dX5_releaseJob_16 ?_
  refine db_cVN (As := [.int (X 1 i 5), .int ((X 1 i 5) + (X 1 i 4))]) (rest := []) (st1 := []) hC hS 2 i (bb_kJ hi) rfl db_c0 (c_X0_begin l Γ N L cnt X hN (X 1 i 5) ((X 1 i 5) + (X 1 i 4)) i hi) (cw_X0_begin (Nat.le_of_ble_eq_true rfl) (Nat.le_of_ble_eq_true rfl)) wn_324 wd_326 ws_20 rfl hl.1 rfl (Nat.le_of_ble_eq_true rfl) dX5_releaseJob_17 ⟨Nat.le_of_ble_eq_true rfl, Nat.le_of_ble_eq_true rfl⟩ rfl (fun H locs hS => ?_)
  obtain ⟨X1, eX1⟩ : ∃ z, z = bb_begin X i (X 1 i 5) ((X 1 i 5) + (X 1 i 4)) := ⟨_, rfl⟩
  rw [← eX1] at hS
  refine lv_aload_n hx hb dX5_releaseJob_20 rfl (lv_at hl 0 rfl) ?_
  refine lv_dup hx hb dX5_releaseJob_21 rfl ?_
  refine db_get hx hb hts hown hK hS 1 i (bb_kT hi) rfl db_c5 6 (by decide) wd_82 rfl dX5_releaseJob_22 ?_
  refine lv_iconst (v := 1) hx hb dX5_releaseJob_25 (by decide) ?_
  refine lv_iadd hx hb dX5_releaseJob_26 ?_
  refine db_put hx hb hts hown hK hS 1 i (bb_kT hi) rfl db_c5 6 (by decide) wd_82 rfl rfl rfl (Nat.le_of_ble_eq_true rfl) rfl dX5_releaseJob_27 (fun H locs hS => ?_)
  obtain ⟨X2, eX2⟩ : ∃ z, z = db_up X1 1 i 6 ((X1 1 i 6) + 1) := ⟨_, rfl⟩
  rw [← eX2] at hS
  refine lv_aload_n hx hb dX5_releaseJob_30 rfl (lv_at hl 0 rfl) ?_
  refine lv_dup hx hb dX5_releaseJob_31 rfl ?_
  refine db_get hx hb hts hown hK hS 1 i (bb_kT hi) rfl db_c5 5 (by decide) wd_80 rfl dX5_releaseJob_32 ?_
  refine lv_aload_n hx hb dX5_releaseJob_35 rfl (lv_at hl 0 rfl) ?_
  refine db_get hx hb hts hown hK hS 1 i (bb_kT hi) rfl db_c5 2 (by decide) wd_74 rfl dX5_releaseJob_36 ?_
  refine lv_iadd hx hb dX5_releaseJob_39 ?_
  refine db_put hx hb hts hown hK hS 1 i (bb_kT hi) rfl db_c5 5 (by decide) wd_80 rfl rfl rfl (Nat.le_of_ble_eq_true rfl) rfl dX5_releaseJob_40 (fun H locs hS => ?_)
  obtain ⟨X3, eX3⟩ : ∃ z, z = db_up X2 1 i 5 ((X2 1 i 5) + (X2 1 i 2)) := ⟨_, rfl⟩
  rw [← eX3] at hS
  exact hret _ _ _ _ _ hS (by rw [eX3, eX2, eX1]; rfl) dX5_releaseJob_43

set_option maxHeartbeats 4000000 in
set_option maxRecDepth 100000 in
theorem c_X5_endJob (l : Launch) (Γ : db_G) (N : Nat → Nat) (L : Nat → Nat → Nat) (cnt : Nat) (X : db_X) (hN : bb_N N) (t : Int32) (i : Nat) (hi : i < N 0) : db_C l Γ yX5_endJob cX5_endJob 2 (none) (db_rm 1 24) [.ref (L 1 i), .int t] L (bb_ok (N 0) cnt) (bb_cel Γ N L) X none (bb_endJ X i t) := by
  have hn0 : N 0 < 2 ^ 31 := by have := hN.2.1; omega
  have hn1 : N 1 < 2 ^ 31 := by have := hN.2.2.1; omega
  have hn2 : N 2 < 2 ^ 31 := by have := hN.2.2.2.1; omega
  have hn3 : N 3 < 2 ^ 31 := by have := hN.2.2.2.2; omega
  refine db_introV (by decide +kernel) (Nat.le_of_ble_eq_true rfl) ?_
  intro p e s m args below meth c A Q ls hC hS hl hret
  have hC : db_Cx p s m args meth c Γ RX5 cX5_endJob 2 (none) := hC
  obtain ⟨hx, hb, hml, hr, hlocks, hown, hts, hK⟩ := id hC
  have hl : lv_has ls 2 [(0, .ref (L 1 i)), (1, .int t)] := hl
  refine lv_aload_n hx hb dX5_endJob_0 rfl (lv_at hl 0 rfl) ?_
  refine db_get hx hb hts hown hK hS 1 i (bb_kT hi) rfl db_c5 0 (by decide) wd_70 rfl dX5_endJob_1 ?_
  refine lv_iconst (v := 0) hx hb dX5_endJob_4 (by decide) ?_
  refine db_putN hx hb hts hown hK hS 2 i (bb_kJ hi) rfl db_c0 0 (by decide) wn_43 rfl (db_nz (Or.inl rfl)) (db_fz (Or.inl rfl)) (Nat.le_of_ble_eq_true rfl) rfl dX5_endJob_5 (fun H locs hS => ?_)
  obtain ⟨X1, eX1⟩ : ∃ z, z = db_up X 2 i 0 0 := ⟨_, rfl⟩
  rw [← eX1] at hS
  refine lv_aload_n hx hb dX5_endJob_8 rfl (lv_at hl 0 rfl) ?_
  refine lv_dup hx hb dX5_endJob_9 rfl ?_
  refine db_get hx hb hts hown hK hS 1 i (bb_kT hi) rfl db_c5 7 (by decide) wd_84 rfl dX5_endJob_10 ?_
  refine lv_iconst (v := 1) hx hb dX5_endJob_13 (by decide) ?_
  refine lv_iadd hx hb dX5_endJob_14 ?_
  refine db_put hx hb hts hown hK hS 1 i (bb_kT hi) rfl db_c5 7 (by decide) wd_84 rfl rfl rfl (Nat.le_of_ble_eq_true rfl) rfl dX5_endJob_15 (fun H locs hS => ?_)
  obtain ⟨X2, eX2⟩ : ∃ z, z = db_up X1 1 i 7 ((X1 1 i 7) + 1) := ⟨_, rfl⟩
  rw [← eX2] at hS
  refine lv_aload_n hx hb dX5_endJob_18 rfl (lv_at hl 0 rfl) ?_
  refine lv_aload_n hx hb dX5_endJob_19 rfl (lv_at hl 0 rfl) ?_
  refine db_get hx hb hts hown hK hS 1 i (bb_kT hi) rfl db_c5 11 (by decide) wd_92 rfl dX5_endJob_20 ?_
  refine lv_iload_n hx hb dX5_endJob_23 rfl (lv_at hl 1 rfl) ?_
  refine lv_aload_n hx hb dX5_endJob_24 rfl (lv_at hl 0 rfl) ?_
  refine db_get hx hb hts hown hK hS 1 i (bb_kT hi) rfl db_c5 0 (by decide) wd_70 rfl dX5_endJob_25 ?_
  refine db_getN hx hb hts hown hK hS 2 i (bb_kJ hi) rfl db_c0 1 (by decide) wn_45 rfl dX5_endJob_28 ?_
  refine lv_isub hx hb dX5_endJob_31 ?_
  refine db_mmax hC hl.1 wd_344 (by decide) (Nat.le_of_ble_eq_true rfl) dX5_endJob_32 ?_
  refine db_put hx hb hts hown hK hS 1 i (bb_kT hi) rfl db_c5 11 (by decide) wd_92 rfl rfl rfl (Nat.le_of_ble_eq_true rfl) rfl dX5_endJob_35 (fun H locs hS => ?_)
  obtain ⟨X3, eX3⟩ : ∃ z, z = db_up X2 1 i 11 (if (X2 1 i 11) < (t - (X2 2 i 1)) then t - (X2 2 i 1) else X2 1 i 11) := ⟨_, rfl⟩
  rw [← eX3] at hS
  exact hret _ _ _ _ _ hS (by rw [eX3, eX2, eX1]; rfl) dX5_endJob_38

set_option maxHeartbeats 4000000 in
set_option maxRecDepth 100000 in
theorem c_X1_note (l : Launch) (Γ : db_G) (N : Nat → Nat) (L : Nat → Nat → Nat) (cnt : Nat) (X : db_X) (hN : bb_N N) (n : Int32) (t : Int32) (h0 : ¬ X 6 0 2 < 0) : db_C l Γ yX1_note cX1_note 3 (none) (db_rm 0 0) [.ref (L 6 0), .int n, .int t] L (bb_ok (N 0) cnt) (bb_cel Γ N L) X none (bb_note N X n t) := by
  have hn0 : N 0 < 2 ^ 31 := by have := hN.2.1; omega
  have hn1 : N 1 < 2 ^ 31 := by have := hN.2.2.1; omega
  have hn2 : N 2 < 2 ^ 31 := by have := hN.2.2.2.1; omega
  have hn3 : N 3 < 2 ^ 31 := by have := hN.2.2.2.2; omega
  refine db_introV (by decide +kernel) (Nat.le_of_ble_eq_true rfl) ?_
  intro p e s m args below meth c A Q ls hC hS hl hret
  have hC : db_Cx p s m args meth c Γ RX1 cX1_note 3 (none) := hC
  obtain ⟨hx, hb, hml, hr, hlocks, hown, hts, hK⟩ := id hC
  have hl : lv_has ls 3 [(0, .ref (L 6 0)), (1, .int n), (2, .int t)] := hl
  have K32 : ∀ (Xa : db_X) (eXa : bb_note N X n t = bb_note3 Xa) (H : Heap) (locs : List Loc) (hS : db_S Γ A s.heap L (bb_ok (N 0) cnt) (bb_cel Γ N L) Xa H locs) (ls : Array Slot) (hl : lv_has ls 3 [(0, .ref (L 6 0))]), W p l e (db_rm 0 0) s m args below meth c H locs 0 0 Q (F0 m 32 ls []) := by
    intro Xa eXa H locs hS ls hl
    refine lv_aload_n hx hb dX1_note_32 rfl (lv_at hl 0 rfl) ?_
    refine lv_dup hx hb dX1_note_33 rfl ?_
    refine db_get hx hb hts hown hK hS 6 0 (bb_k 6 rfl) rfl db_c1 2 (by decide) wd_150 rfl dX1_note_34 ?_
    refine lv_iconst (v := 1) hx hb dX1_note_37 (by decide) ?_
    refine lv_iadd hx hb dX1_note_38 ?_
    refine db_put hx hb hts hown hK hS 6 0 (bb_k 6 rfl) rfl db_c1 2 (by decide) wd_150 rfl rfl rfl (Nat.le_of_ble_eq_true rfl) rfl dX1_note_39 (fun H locs hS => ?_)
    obtain ⟨X1, eX1⟩ : ∃ z, z = db_up Xa 6 0 2 ((Xa 6 0 2) + 1) := ⟨_, rfl⟩
    rw [← eX1] at hS
    exact hret _ _ _ _ _ hS (by rw [eXa, eX1]; rfl) dX1_note_42
  refine lv_aload_n hx hb dX1_note_0 rfl (lv_at hl 0 rfl) ?_
  refine db_get hx hb hts hown hK hS 6 0 (bb_k 6 rfl) rfl db_c1 2 (by decide) wd_150 rfl dX1_note_1 ?_
  refine lv_aload_n hx hb dX1_note_4 rfl (lv_at hl 0 rfl) ?_
  refine db_get hx hb hts hown hK hS 6 0 (bb_k 6 rfl) rfl db_c1 0 (by decide) wd_146 rfl dX1_note_5 ?_
  refine db_alen hx hb hK hS 7 0 (bb_k 7 rfl) 0 rfl rfl dX1_note_8 ?_
  refine lv_icmp_ge (tgt := 32) hx hb dX1_note_9 (by decide) (fun c9 => ?_) (fun c9 => ?_)
  · exact K32 X (by rw [bb_note, if_pos c9]) _ _ hS _ (lv_sub hl [0] rfl)
  · have h9 : db_in (X 6 0 2) (N 3) := db_ix hn3 h0 c9
    refine lv_aload_n hx hb dX1_note_12 rfl (lv_at hl 0 rfl) ?_
    refine db_get hx hb hts hown hK hS 6 0 (bb_k 6 rfl) rfl db_c1 0 (by decide) wd_146 rfl dX1_note_13 ?_
    refine lv_aload_n hx hb dX1_note_16 rfl (lv_at hl 0 rfl) ?_
    refine db_get hx hb hts hown hK hS 6 0 (bb_k 6 rfl) rfl db_c1 2 (by decide) wd_150 rfl dX1_note_17 ?_
    refine lv_iload_n hx hb dX1_note_20 rfl (lv_at hl 1 rfl) ?_
    refine db_ist hx hb hK hS 7 0 (bb_k 7 rfl) (fun _ => rfl) ((X 6 0 2).toNatClampNeg) (h9.eq hn3) (h9.lt hn3) hn3 dX1_note_21 (fun H locs hS => ?_)
    obtain ⟨X2, eX2⟩ : ∃ z, z = db_up X 7 0 ((X 6 0 2).toNatClampNeg) n := ⟨_, rfl⟩
    rw [← eX2] at hS
    have h91 : X2 6 0 2 = X 6 0 2 := by rw [eX2]; simp [db_up]
    have h9b : db_in (X2 6 0 2) (N 3) := by rw [h91]; exact h9
    refine lv_aload_n hx hb dX1_note_22 rfl (lv_at hl 0 rfl) ?_
    refine db_get hx hb hts hown hK hS 6 0 (bb_k 6 rfl) rfl db_c1 1 (by decide) wd_148 rfl dX1_note_23 ?_
    refine lv_aload_n hx hb dX1_note_26 rfl (lv_at hl 0 rfl) ?_
    refine db_get hx hb hts hown hK hS 6 0 (bb_k 6 rfl) rfl db_c1 2 (by decide) wd_150 rfl dX1_note_27 ?_
    refine lv_iload_n hx hb dX1_note_30 rfl (lv_at hl 2 rfl) ?_
    refine db_ist hx hb hK hS 8 0 (bb_k 8 rfl) (fun _ => rfl) ((X2 6 0 2).toNatClampNeg) (h9b.eq hn3) (h9b.lt hn3) hn3 dX1_note_31 (fun H locs hS => ?_)
    obtain ⟨X3, eX3⟩ : ∃ z, z = db_up X2 8 0 ((X2 6 0 2).toNatClampNeg) t := ⟨_, rfl⟩
    rw [← eX3] at hS
    exact K32 X3 (by rw [bb_note, if_neg c9, eX3, eX2]; rfl) _ _ hS _ (lv_sub hl [0] rfl)

set_option maxHeartbeats 4000000 in
set_option maxRecDepth 100000 in
theorem c_X1_keeps (l : Launch) (Γ : db_G) (N : Nat → Nat) (L : Nat → Nat → Nat) (cnt : Nat) (X : db_X) (hN : bb_N N) (i : Int32) : db_C l Γ yX1_keeps cX1_keeps 2 (some .boolean) (db_rm 0 0) [.ref (L 6 0), .int i] L (bb_ok (N 0) cnt) (bb_cel Γ N L) X (some (.int (bb_keeps N X i))) X := by
  have hn0 : N 0 < 2 ^ 31 := by have := hN.2.1; omega
  have hn1 : N 1 < 2 ^ 31 := by have := hN.2.2.1; omega
  have hn2 : N 2 < 2 ^ 31 := by have := hN.2.2.2.1; omega
  have hn3 : N 3 < 2 ^ 31 := by have := hN.2.2.2.2; omega
  refine db_introZ (by decide +kernel) (Nat.le_of_ble_eq_true rfl) (db_01 (Or.inl rfl) (db_01 (Or.inl rfl) (db_01 (Or.inl rfl) (Or.inr rfl)))) ?_
  intro p e s m args below meth c A Q ls hC hS hl hret
  have hC : db_Cx p s m args meth c Γ RX1 cX1_keeps 2 (some .boolean) := hC
  obtain ⟨hx, hb, hml, hr, hlocks, hown, hts, hK⟩ := id hC
  have hl : lv_has ls 2 [(0, .ref (L 6 0)), (1, .int i)] := hl
  refine lv_iload_n hx hb dX1_keeps_0 rfl (lv_at hl 1 rfl) ?_
  refine lv_if_lt (tgt := 25) hx hb dX1_keeps_1 (by decide) (fun c1 => ?_) (fun c1 => ?_)
  · refine lv_iconst (v := 0) hx hb dX1_keeps_25 (by decide) ?_
    exact hret _ _ _ _ _ _ hS (by simp [bb_keeps, c1]) (rfl) dX1_keeps_26
  · refine lv_iload_n hx hb dX1_keeps_4 rfl (lv_at hl 1 rfl) ?_
    refine lv_aload_n hx hb dX1_keeps_5 rfl (lv_at hl 0 rfl) ?_
    refine db_get hx hb hts hown hK hS 6 0 (bb_k 6 rfl) rfl db_c1 2 (by decide) wd_150 rfl dX1_keeps_6 ?_
    refine lv_icmp_ge (tgt := 25) hx hb dX1_keeps_9 (by decide) (fun c9 => ?_) (fun c9 => ?_)
    · refine lv_iconst (v := 0) hx hb dX1_keeps_25 (by decide) ?_
      exact hret _ _ _ _ _ _ hS (by simp [bb_keeps, c1, c9]) (rfl) dX1_keeps_26
    · refine lv_iload_n hx hb dX1_keeps_12 rfl (lv_at hl 1 rfl) ?_
      refine lv_aload_n hx hb dX1_keeps_13 rfl (lv_at hl 0 rfl) ?_
      refine db_get hx hb hts hown hK hS 6 0 (bb_k 6 rfl) rfl db_c1 0 (by decide) wd_146 rfl dX1_keeps_14 ?_
      refine db_alen hx hb hK hS 7 0 (bb_k 7 rfl) 0 rfl rfl dX1_keeps_17 ?_
      refine lv_icmp_ge (tgt := 25) hx hb dX1_keeps_18 (by decide) (fun c18 => ?_) (fun c18 => ?_)
      · refine lv_iconst (v := 0) hx hb dX1_keeps_25 (by decide) ?_
        exact hret _ _ _ _ _ _ hS (by simp [bb_keeps, c1, c9, c18]) (rfl) dX1_keeps_26
      · refine lv_iconst (v := 1) hx hb dX1_keeps_21 (by decide) ?_
        refine lv_goto (tgt := 26) hx hb dX1_keeps_22 (by decide) ?_
        exact hret _ _ _ _ _ _ hS (by simp [bb_keeps, c1, c9, c18]) (rfl) dX1_keeps_26

set_option maxHeartbeats 4000000 in
set_option maxRecDepth 100000 in
theorem c_X2_note (l : Launch) (Γ : db_G) (N : Nat → Nat) (L : Nat → Nat → Nat) (cnt : Nat) (X : db_X) (hN : bb_N N) (r : Int32) (th : Nat) (hth : X 9 0 1 = nI th) (hth2 : th < 2 ^ 31) : db_C l Γ yX2_note cX2_note 2 (none) (db_rm 0 0) [.ref (L 9 0), .int r] L (bb_ok (N 0) cnt) (bb_cel Γ N L) X none (bb_hn X th r) := by
  have hn0 : N 0 < 2 ^ 31 := by have := hN.2.1; omega
  have hn1 : N 1 < 2 ^ 31 := by have := hN.2.2.1; omega
  have hn2 : N 2 < 2 ^ 31 := by have := hN.2.2.2.1; omega
  have hn3 : N 3 < 2 ^ 31 := by have := hN.2.2.2.2; omega
  refine db_introV (by decide +kernel) (Nat.le_of_ble_eq_true rfl) ?_
  intro p e s m args below meth c A Q ls hC hS hl hret
  have hC : db_Cx p s m args meth c Γ RX2 cX2_note 2 (none) := hC
  obtain ⟨hx, hb, hml, hr, hlocks, hown, hts, hK⟩ := id hC
  have hl : lv_has ls 2 [(0, .ref (L 9 0)), (1, .int r)] := hl
  refine lv_aload_n hx hb dX2_note_0 rfl (lv_at hl 0 rfl) ?_
  refine db_get hx hb hts hown hK hS 9 0 (bb_k 9 rfl) rfl db_c2 0 (by decide) wd_165 rfl dX2_note_1 ?_
  refine lv_aload_n hx hb dX2_note_4 rfl (lv_at hl 0 rfl) ?_
  refine db_get hx hb hts hown hK hS 9 0 (bb_k 9 rfl) rfl db_c2 1 (by decide) wd_166 rfl dX2_note_5 ?_
  refine lv_bipush (v := 100) hx hb dX2_note_8 (by decide) ?_
  refine lv_irem hx hb dX2_note_10 (by decide) ?_
  refine lv_iload_n hx hb dX2_note_11 rfl (lv_at hl 1 rfl) ?_
  refine db_ist hx hb hK hS 10 0 (bb_k 10 rfl) (fun _ => rfl) (th % 100) (by rw [hth]; exact pk_rem hth2 (by decide) (by decide)) (Nat.mod_lt _ (by decide)) (by decide) dX2_note_12 (fun H locs hS => ?_)
  obtain ⟨X1, eX1⟩ : ∃ z, z = db_up X 10 0 (th % 100) r := ⟨_, rfl⟩
  rw [← eX1] at hS
  refine lv_aload_n hx hb dX2_note_13 rfl (lv_at hl 0 rfl) ?_
  refine lv_dup hx hb dX2_note_14 rfl ?_
  refine db_get hx hb hts hown hK hS 9 0 (bb_k 9 rfl) rfl db_c2 1 (by decide) wd_166 rfl dX2_note_15 ?_
  refine lv_iconst (v := 1) hx hb dX2_note_18 (by decide) ?_
  refine lv_iadd hx hb dX2_note_19 ?_
  refine db_put hx hb hts hown hK hS 9 0 (bb_k 9 rfl) rfl db_c2 1 (by decide) wd_166 rfl rfl rfl (Nat.le_of_ble_eq_true rfl) rfl dX2_note_20 (fun H locs hS => ?_)
  obtain ⟨X2, eX2⟩ : ∃ z, z = db_up X1 9 0 1 ((X1 9 0 1) + 1) := ⟨_, rfl⟩
  rw [← eX2] at hS
  exact hret _ _ _ _ _ hS (by rw [eX2, eX1]; rfl) dX2_note_23

set_option maxHeartbeats 4000000 in
set_option maxRecDepth 100000 in
theorem c_X2_runnerBack (l : Launch) (Γ : db_G) (N : Nat → Nat) (L : Nat → Nat → Nat) (cnt : Nat) (X : db_X) (hN : bb_N N) (k : Int32) (th : Nat) (hth : X 9 0 1 = nI th) (hth2 : th < 2 ^ 31) : db_C l Γ yX2_runnerBack cX2_runnerBack 2 (some .int) (db_rm 0 0) [.ref (L 9 0), .int k] L (bb_ok (N 0) cnt) (bb_cel Γ N L) X (some (.int (bb_back X th k))) X := by
  have hn0 : N 0 < 2 ^ 31 := by have := hN.2.1; omega
  have hn1 : N 1 < 2 ^ 31 := by have := hN.2.2.1; omega
  have hn2 : N 2 < 2 ^ 31 := by have := hN.2.2.2.1; omega
  have hn3 : N 3 < 2 ^ 31 := by have := hN.2.2.2.2; omega
  refine db_introI (by decide +kernel) (Nat.le_of_ble_eq_true rfl) ?_
  intro p e s m args below meth c A Q ls hC hS hl hret
  have hC : db_Cx p s m args meth c Γ RX2 cX2_runnerBack 2 (some .int) := hC
  obtain ⟨hx, hb, hml, hr, hlocks, hown, hts, hK⟩ := id hC
  have hl : lv_has ls 2 [(0, .ref (L 9 0)), (1, .int k)] := hl
  have K18 : ∀ (h18 : bb_back X th k = -2) (H : Heap) (locs : List Loc) (hS : db_S Γ A s.heap L (bb_ok (N 0) cnt) (bb_cel Γ N L) X H locs) (ls : Array Slot) (hl : lv_has ls 2 []), W p l e (db_rm 0 0) s m args below meth c H locs 0 0 Q (F0 m 18 ls []) := by
    intro  h18 H locs hS ls hl
    refine lv_bipush (v := -2) hx hb dX2_runnerBack_18 (by decide) ?_
    exact hret _ _ _ _ _ _ hS (h18.symm) (rfl) dX2_runnerBack_20
  refine lv_iload_n hx hb dX2_runnerBack_0 rfl (lv_at hl 1 rfl) ?_
  refine lv_if_lt (tgt := 18) hx hb dX2_runnerBack_1 (by decide) (fun c1 => ?_) (fun c1 => ?_)
  · exact K18  (by simp [bb_back, c1]) _ _ hS _ (lv_sub hl [] rfl)
  · refine lv_iload_n hx hb dX2_runnerBack_4 rfl (lv_at hl 1 rfl) ?_
    refine lv_bipush (v := 100) hx hb dX2_runnerBack_5 (by decide) ?_
    refine lv_icmp_ge (tgt := 18) hx hb dX2_runnerBack_7 (by decide) (fun c7 => ?_) (fun c7 => ?_)
    · exact K18  (by simp [bb_back, c1, c7]) _ _ hS _ (lv_sub hl [] rfl)
    · refine lv_iload_n hx hb dX2_runnerBack_10 rfl (lv_at hl 1 rfl) ?_
      refine lv_aload_n hx hb dX2_runnerBack_11 rfl (lv_at hl 0 rfl) ?_
      refine db_get hx hb hts hown hK hS 9 0 (bb_k 9 rfl) rfl db_c2 1 (by decide) wd_166 rfl dX2_runnerBack_12 ?_
      refine lv_icmp_lt (tgt := 21) hx hb dX2_runnerBack_15 (by decide) (fun c15 => ?_) (fun c15 => ?_)
      · obtain ⟨j, hj, rfl⟩ : ∃ j : Nat, j < th ∧ k = nI j := by
          obtain ⟨j, hj, ej⟩ := nI_of (x := k) c1
          refine ⟨j, ?_, ej⟩
          rw [ej, hth] at c15
          exact (nI_ltI hj hth2).mp c15
        refine lv_aload_n hx hb dX2_runnerBack_21 rfl (lv_at hl 0 rfl) ?_
        refine db_get hx hb hts hown hK hS 9 0 (bb_k 9 rfl) rfl db_c2 0 (by decide) wd_165 rfl dX2_runnerBack_22 ?_
        refine lv_aload_n hx hb dX2_runnerBack_25 rfl (lv_at hl 0 rfl) ?_
        refine db_get hx hb hts hown hK hS 9 0 (bb_k 9 rfl) rfl db_c2 1 (by decide) wd_166 rfl dX2_runnerBack_26 ?_
        refine lv_iconst (v := 1) hx hb dX2_runnerBack_29 (by decide) ?_
        refine lv_isub hx hb dX2_runnerBack_30 ?_
        refine lv_iload_n hx hb dX2_runnerBack_31 rfl (lv_at hl 1 rfl) ?_
        refine lv_isub hx hb dX2_runnerBack_32 ?_
        refine lv_bipush (v := 100) hx hb dX2_runnerBack_33 (by decide) ?_
        refine lv_irem hx hb dX2_runnerBack_35 (by decide) ?_
        have h36 : X 9 0 1 - 1 - nI j = nI (th - 1 - j) := by
          rw [hth, show (1 : Int32) = nI 1 from rfl, pk_sub (by omega), pk_sub (by omega)]
        refine db_ild hx hb hK hS 10 0 (bb_k 10 rfl) rfl ((th - 1 - j) % 100) (by rw [h36]; exact pk_rem (by omega) (by decide) (by decide)) (Nat.mod_lt _ (by decide)) (by decide) dX2_runnerBack_36 ?_
        exact hret _ _ _ _ _ _ hS (by simp [bb_back, c1, c7, c15, nI_clamp (show j < 2 ^ 31 by omega)]) (rfl) dX2_runnerBack_37
      · exact K18  (by simp [bb_back, c1, c7, c15]) _ _ hS _ (lv_sub hl [] rfl)
