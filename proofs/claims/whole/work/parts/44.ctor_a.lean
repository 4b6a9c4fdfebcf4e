theorem wo_code : Cond.code Lib.objectInit ⟨#[0xb1]⟩ 1 none ∈ db_gw := List.mem_filter.mpr ⟨List.mem_of_getElem? (i := 69) (by decide +kernel), by decide +kernel⟩
set_option maxHeartbeats 4000000 in
set_option maxRecDepth 100000 in
theorem n_X0_init (l : Launch) (Γ : db_G) (a : Nat) (sz : Nat) (h : db_Mem) (ha : h a = some (.inr (0, [.int 0, .int 0, .int 0, .int 0, .int 0, .int 0, .int 0]))) : db_N l Γ yX0_init cX0_init 1 none (db_rc 1 24 0 0) [.ref a] h sz (fun v h' z => v = none ∧ h' = db_set h a (.inr (0, [.int 0, .int 0, .int 0, .int 0, .int (-1), .int 0, .int 0])) ∧ z = sz) := by
  refine db_introN (by decide +kernel) (Nat.le_of_ble_eq_true rfl) ?_
  intro p e s m args below meth c A Q ls hC hnm hz hW hl hret hQ
  have hC : db_Cx p s m args meth c Γ RX0 cX0_init 1 none := hC
  obtain ⟨hx, hb, hml, hr, hlocks, hown, hts, hK⟩ := id hC
  have hin2 : meth.name = "<init>" := hnm
  have hl : lv_has ls 1 [(0, .ref a)] := hl
  have hasz : a < sz := by rw [← hz]; exact (hW.1 _ _ ha).lt
  refine lv_aload_n hx hb dX0_init_0 rfl (lv_at hl 0 rfl) ?_
  refine db_objI hC hl.1 wd_40 wd_17 wo_code (by decide) (Nat.le_of_ble_eq_true rfl) dX0_init_1 ?_
  refine lv_aload_n hx hb dX0_init_4 rfl (lv_at hl 0 rfl) ?_
  refine lv_iconst (v := -1) hx hb dX0_init_5 (by decide) ?_
  refine db_putS hx hb hts hown hK hW ha db_c0 4 (by decide) (hts _ wd_50) rfl (v := .int (-1)) rfl rfl (Nat.le_of_ble_eq_true rfl) dX0_init_6 (fun H locs hz1 hW => ?_)
  have hz := hz1.trans hz
  have hW : db_W Γ A s.heap (db_set h a (.inr (0, [.int 0, .int 0, .int 0, .int 0, .int (-1), .int 0, .int 0]))) H locs := hW
  obtain ⟨h1, eh1⟩ : ∃ w, w = db_set h a (.inr (0, [.int 0, .int 0, .int 0, .int 0, .int (-1), .int 0, .int 0])) := ⟨_, rfl⟩
  rw [← eh1] at hW
  have f1 : h1 a = some (.inr (0, [.int 0, .int 0, .int 0, .int 0, .int (-1), .int 0, .int 0])) := by rw [eh1]; exact db_ss
  refine W.widen (k := 0) (n := 0) (by omega) (by omega) (W.mono hQ ?_)
  exact W.vret hx hb hr (fun t ht _ => hret _ _ _ none hW (⟨rfl, by rw [eh1], hz⟩) t ht) hW.2.2.1.2.2 dX0_init_9 hlocks

set_option maxHeartbeats 4000000 in
set_option maxRecDepth 100000 in
theorem n_X5_init (l : Launch) (Γ : db_G) (a : Nat) (sz : Nat) (h : db_Mem) (ha : h a = some (.inr (5, [.null, .int 0, .int 0, .int 0, .int 0, .int 0, .int 0, .int 0, .int 0, .int 0, .int 0, .int 0]))) : db_N l Γ yX5_init cX5_init 1 none (db_rc 2 60 1 7) [.ref a] h sz (fun v h' z => v = none ∧ h' = db_set (db_set (db_set h sz (.inr (0, [.int 0, .int 0, .int 0, .int 0, .int 0, .int 0, .int 0]))) sz (.inr (0, [.int 0, .int 0, .int 0, .int 0, .int (-1), .int 0, .int 0]))) a (.inr (5, [.ref sz, .int 0, .int 0, .int 0, .int 0, .int 0, .int 0, .int 0, .int 0, .int 0, .int 0, .int 0])) ∧ z = sz + 1) := by
  refine db_introN (by decide +kernel) (Nat.le_of_ble_eq_true rfl) ?_
  intro p e s m args below meth c A Q ls hC hnm hz hW hl hret hQ
  have hC : db_Cx p s m args meth c Γ RX5 cX5_init 1 none := hC
  obtain ⟨hx, hb, hml, hr, hlocks, hown, hts, hK⟩ := id hC
  have hin2 : meth.name = "<init>" := hnm
  have hl : lv_has ls 1 [(0, .ref a)] := hl
  have hasz : a < sz := by rw [← hz]; exact (hW.1 _ _ ha).lt
  refine lv_aload_n hx hb dX5_init_0 rfl (lv_at hl 0 rfl) ?_
  refine db_objI hC hl.1 wd_34 wd_17 wo_code (by decide) (Nat.le_of_ble_eq_true rfl) dX5_init_1 ?_
  refine lv_aload_n hx hb dX5_init_4 rfl (lv_at hl 0 rfl) ?_
  refine db_newR hx hb hts hown hK hW db_c0 wd_35 wd_36 wd_4 (fs := [.int 0, .int 0, .int 0, .int 0, .int 0, .int 0, .int 0]) (by decide +kernel) (by show 0 + 1 ≤ 1; omega) (by show 0 + 7 ≤ 7; omega) dX5_init_5 hz (fun H hW hno hz => ?_)
  have hz : H.size = sz + 1 := hz
  obtain ⟨h1, eh1⟩ : ∃ w, w = db_set h sz (.inr (0, [.int 0, .int 0, .int 0, .int 0, .int 0, .int 0, .int 0])) := ⟨_, rfl⟩
  rw [← eh1] at hW
  have f1 : h1 sz = some (.inr (0, [.int 0, .int 0, .int 0, .int 0, .int 0, .int 0, .int 0])) := by rw [eh1]; exact db_ss
  have f1_1 : h1 a = some (.inr (5, [.null, .int 0, .int 0, .int 0, .int 0, .int 0, .int 0, .int 0, .int 0, .int 0, .int 0, .int 0])) := by rw [eh1]; exact (db_sn (by omega)).trans ha
  refine lv_dup hx hb dX5_init_8 rfl ?_
  refine db_cIN (As := []) (rest := [.ref sz, .ref a]) hC hW hz (n_X0_init l Γ sz _ _ f1) (cw_X0_init (Nat.le_of_ble_eq_true rfl) (Nat.le_of_ble_eq_true rfl)) wn_37 wd_38 rfl rfl hl.1 rfl (Nat.le_of_ble_eq_true rfl) dX5_init_9 ⟨by show 0 + 1 + 0 ≤ 1; omega, by show 0 + 7 + 0 ≤ 7; omega⟩ (fun v9 h9 H locs hP9 hW => ?_)
  obtain ⟨rfl, rfl, hz⟩ := hP9
  refine W.widen (k := 0 + 1) (n := 0 + 7) (Nat.le_refl _) (Nat.le_refl _) ?_
  obtain ⟨h2, eh2⟩ : ∃ w, w = db_set h1 sz (.inr (0, [.int 0, .int 0, .int 0, .int 0, .int (-1), .int 0, .int 0])) := ⟨_, rfl⟩
  rw [← eh2] at hW
  have f2 : h2 sz = some (.inr (0, [.int 0, .int 0, .int 0, .int 0, .int (-1), .int 0, .int 0])) := by rw [eh2]; exact db_ss
  have f2_1 : h2 a = some (.inr (5, [.null, .int 0, .int 0, .int 0, .int 0, .int 0, .int 0, .int 0, .int 0, .int 0, .int 0, .int 0])) := by rw [eh2]; exact (db_sn (by omega)).trans f1_1
  refine db_putFS hx hb hts hown hK hW f2_1 db_c5 0 (by decide) (hts _ wd_70) rfl hin2 rfl (v := .ref sz) rfl rfl (Nat.le_of_ble_eq_true rfl) dX5_init_12 (fun H locs hz1 hW => ?_)
  have hz := hz1.trans hz
  have hW : db_W Γ A s.heap (db_set h2 a (.inr (5, [.ref sz, .int 0, .int 0, .int 0, .int 0, .int 0, .int 0, .int 0, .int 0, .int 0, .int 0, .int 0]))) H locs := hW
  obtain ⟨h3, eh3⟩ : ∃ w, w = db_set h2 a (.inr (5, [.ref sz, .int 0, .int 0, .int 0, .int 0, .int 0, .int 0, .int 0, .int 0, .int 0, .int 0, .int 0])) := ⟨_, rfl⟩
  rw [← eh3] at hW
  have f3 : h3 a = some (.inr (5, [.ref sz, .int 0, .int 0, .int 0, .int 0, .int 0, .int 0, .int 0, .int 0, .int 0, .int 0, .int 0])) := by rw [eh3]; exact db_ss
  have f3_1 : h3 sz = some (.inr (0, [.int 0, .int 0, .int 0, .int 0, .int (-1), .int 0, .int 0])) := by rw [eh3]; exact (db_sn (by omega)).trans f2
  refine W.widen (k := 1) (n := 7) (by omega) (by omega) (W.mono hQ ?_)
  exact W.vret hx hb hr (fun t ht _ => hret _ _ _ none hW (⟨rfl, by rw [eh3, eh2, eh1], hz⟩) t ht) hW.2.2.1.2.2 dX5_init_15 hlocks

set_option maxHeartbeats 4000000 in
set_option maxRecDepth 100000 in
theorem n_X3_init (l : Launch) (Γ : db_G) (a : Nat) (sz : Nat) (h : db_Mem) (t : Int32) (b : Int32) (k : Int32) (g : Int32) (ha : h a = some (.inr (3, [.int 0, .int 0, .int 0, .int 0, .int 0]))) : db_N l Γ yX3_init cX3_init 5 none (db_rc 1 24 0 0) [.ref a, .int t, .int b, .int k, .int g] h sz (fun v h' z => v = none ∧ h' = db_set (db_set (db_set (db_set (db_set h a (.inr (3, [.int t, .int 0, .int 0, .int 0, .int 0]))) a (.inr (3, [.int t, .int b, .int 0, .int 0, .int 0]))) a (.inr (3, [.int t, .int b, .int k, .int 0, .int 0]))) a (.inr (3, [.int t, .int b, .int k, .int g, .int 0]))) a (.inr (3, [.int t, .int b, .int k, .int g, .int (b + g)])) ∧ z = sz) := by
  refine db_introN (by decide +kernel) (Nat.le_of_ble_eq_true rfl) ?_
  intro p e s m args below meth c A Q ls hC hnm hz hW hl hret hQ
  have hC : db_Cx p s m args meth c Γ RX3 cX3_init 5 none := hC
  obtain ⟨hx, hb, hml, hr, hlocks, hown, hts, hK⟩ := id hC
  have hin2 : meth.name = "<init>" := hnm
  have hl : lv_has ls 5 [(0, .ref a), (1, .int t), (2, .int b), (3, .int k), (4, .int g)] := hl
  have hasz : a < sz := by rw [← hz]; exact (hW.1 _ _ ha).lt
  refine lv_aload_n hx hb dX3_init_0 rfl (lv_at hl 0 rfl) ?_
  refine db_objI hC hl.1 wd_222 wd_17 wo_code (by decide) (Nat.le_of_ble_eq_true rfl) dX3_init_1 ?_
  refine lv_aload_n hx hb dX3_init_4 rfl (lv_at hl 0 rfl) ?_
  refine lv_iload_n hx hb dX3_init_5 rfl (lv_at hl 1 rfl) ?_
  refine db_putFS hx hb hts hown hK hW ha db_c3 0 (by decide) (hts _ wd_223) rfl hin2 rfl (v := .int t) rfl rfl (Nat.le_of_ble_eq_true rfl) dX3_init_6 (fun H locs hz1 hW => ?_)
  have hz := hz1.trans hz
  have hW : db_W Γ A s.heap (db_set h a (.inr (3, [.int t, .int 0, .int 0, .int 0, .int 0]))) H locs := hW
  obtain ⟨h1, eh1⟩ : ∃ w, w = db_set h a (.inr (3, [.int t, .int 0, .int 0, .int 0, .int 0])) := ⟨_, rfl⟩
  rw [← eh1] at hW
  have f1 : h1 a = some (.inr (3, [.int t, .int 0, .int 0, .int 0, .int 0])) := by rw [eh1]; exact db_ss
  refine lv_aload_n hx hb dX3_init_9 rfl (lv_at hl 0 rfl) ?_
  refine lv_iload_n hx hb dX3_init_10 rfl (lv_at hl 2 rfl) ?_
  refine db_putFS hx hb hts hown hK hW f1 db_c3 1 (by decide) (hts _ wd_226) rfl hin2 rfl (v := .int b) rfl rfl (Nat.le_of_ble_eq_true rfl) dX3_init_11 (fun H locs hz1 hW => ?_)
  have hz := hz1.trans hz
  have hW : db_W Γ A s.heap (db_set h1 a (.inr (3, [.int t, .int b, .int 0, .int 0, .int 0]))) H locs := hW
  obtain ⟨h2, eh2⟩ : ∃ w, w = db_set h1 a (.inr (3, [.int t, .int b, .int 0, .int 0, .int 0])) := ⟨_, rfl⟩
  rw [← eh2] at hW
  have f2 : h2 a = some (.inr (3, [.int t, .int b, .int 0, .int 0, .int 0])) := by rw [eh2]; exact db_ss
  refine lv_aload_n hx hb dX3_init_14 rfl (lv_at hl 0 rfl) ?_
  refine lv_iload_n hx hb dX3_init_15 rfl (lv_at hl 3 rfl) ?_
  refine db_putFS hx hb hts hown hK hW f2 db_c3 2 (by decide) (hts _ wd_228) rfl hin2 rfl (v := .int k) rfl rfl (Nat.le_of_ble_eq_true rfl) dX3_init_16 (fun H locs hz1 hW => ?_)
  have hz := hz1.trans hz
  have hW : db_W Γ A s.heap (db_set h2 a (.inr (3, [.int t, .int b, .int k, .int 0, .int 0]))) H locs := hW
  obtain ⟨h3, eh3⟩ : ∃ w, w = db_set h2 a (.inr (3, [.int t, .int b, .int k, .int 0, .int 0])) := ⟨_, rfl⟩
  rw [← eh3] at hW
  have f3 : h3 a = some (.inr (3, [.int t, .int b, .int k, .int 0, .int 0])) := by rw [eh3]; exact db_ss
  refine lv_aload_n hx hb dX3_init_19 rfl (lv_at hl 0 rfl) ?_
  refine lv_iload hx hb dX3_init_20 (lv_at hl 4 rfl) ?_
  refine db_putFS hx hb hts hown hK hW f3 db_c3 3 (by decide) (hts _ wd_230) rfl hin2 rfl (v := .int g) rfl rfl (Nat.le_of_ble_eq_true rfl) dX3_init_22 (fun H locs hz1 hW => ?_)
  have hz := hz1.trans hz
  have hW : db_W Γ A s.heap (db_set h3 a (.inr (3, [.int t, .int b, .int k, .int g, .int 0]))) H locs := hW
  obtain ⟨h4, eh4⟩ : ∃ w, w = db_set h3 a (.inr (3, [.int t, .int b, .int k, .int g, .int 0])) := ⟨_, rfl⟩
  rw [← eh4] at hW
  have f4 : h4 a = some (.inr (3, [.int t, .int b, .int k, .int g, .int 0])) := by rw [eh4]; exact db_ss
  refine lv_aload_n hx hb dX3_init_25 rfl (lv_at hl 0 rfl) ?_
  refine lv_iload_n hx hb dX3_init_26 rfl (lv_at hl 2 rfl) ?_
  refine lv_iload hx hb dX3_init_27 (lv_at hl 4 rfl) ?_
  refine lv_iadd hx hb dX3_init_29 ?_
  refine db_putFS hx hb hts hown hK hW f4 db_c3 4 (by decide) (hts _ wd_231) rfl hin2 rfl (v := .int (b + g)) rfl rfl (Nat.le_of_ble_eq_true rfl) dX3_init_30 (fun H locs hz1 hW => ?_)
  have hz := hz1.trans hz
  have hW : db_W Γ A s.heap (db_set h4 a (.inr (3, [.int t, .int b, .int k, .int g, .int (b + g)]))) H locs := hW
  obtain ⟨h5, eh5⟩ : ∃ w, w = db_set h4 a (.inr (3, [.int t, .int b, .int k, .int g, .int (b + g)])) := ⟨_, rfl⟩
  rw [← eh5] at hW
  have f5 : h5 a = some (.inr (3, [.int t, .int b, .int k, .int g, .int (b + g)])) := by rw [eh5]; exact db_ss
  refine W.widen (k := 0) (n := 0) (by omega) (by omega) (W.mono hQ ?_)
  exact W.vret hx hb hr (fun t ht _ => hret _ _ _ none hW (⟨rfl, by rw [eh5, eh4, eh3, eh2, eh1], hz⟩) t ht) hW.2.2.1.2.2 dX3_init_33 hlocks

set_option maxHeartbeats 4000000 in
set_option maxRecDepth 100000 in
theorem n_X1_init (l : Launch) (Γ : db_G) (a : Nat) (sz : Nat) (h : db_Mem) (n : Nat) (ha : h a = some (.inr (1, [.null, .null, .int 0]))) (hn : n ≤ 100) : db_N l Γ yX1_init cX1_init 2 none (db_rc 1 24 2 200) [.ref a, .int (nI n)] h sz (fun v h' z => v = none ∧ h' = db_set (db_set (db_set (db_set h sz (.inl (Γ.2 0, n, .inl (fun _ => 0)))) a (.inr (1, [.ref sz, .null, .int 0]))) (sz + 1) (.inl (Γ.2 0, n, .inl (fun _ => 0)))) a (.inr (1, [.ref sz, .ref (sz + 1), .int 0])) ∧ z = sz + 2) := by
  refine db_introN (by decide +kernel) (Nat.le_of_ble_eq_true rfl) ?_
  intro p e s m args below meth c A Q ls hC hnm hz hW hl hret hQ
  have hC : db_Cx p s m args meth c Γ RX1 cX1_init 2 none := hC
  obtain ⟨hx, hb, hml, hr, hlocks, hown, hts, hK⟩ := id hC
  have hin2 : meth.name = "<init>" := hnm
  have hl : lv_has ls 2 [(0, .ref a), (1, .int (nI n))] := hl
  have hasz : a < sz := by rw [← hz]; exact (hW.1 _ _ ha).lt
  refine lv_aload_n hx hb dX1_init_0 rfl (lv_at hl 0 rfl) ?_
  refine db_objI hC hl.1 wd_145 wd_17 wo_code (by decide) (Nat.le_of_ble_eq_true rfl) dX1_init_1 ?_
  refine lv_aload_n hx hb dX1_init_4 rfl (lv_at hl 0 rfl) ?_
  refine lv_iload_n hx hb dX1_init_5 rfl (lv_at hl 1 rfl) ?_
  refine db_newI hx hb hts hK hW wd_139 (k := n) rfl (by omega) (by show 0 + 1 ≤ 2; omega) (by show 0 + n ≤ 200; omega) dX1_init_6 hz (fun H hW hno hz => ?_)
  have hz : H.size = sz + 1 := hz
  obtain ⟨h1, eh1⟩ : ∃ w, w = db_set h sz (.inl (Γ.2 0, n, .inl (fun _ => 0))) := ⟨_, rfl⟩
  rw [← eh1] at hW
  have f1 : h1 sz = some (.inl (Γ.2 0, n, .inl (fun _ => 0))) := by rw [eh1]; exact db_ss
  have f1_1 : h1 a = some (.inr (1, [.null, .null, .int 0])) := by rw [eh1]; exact (db_sn (by omega)).trans ha
  refine db_putFS hx hb hts hown hK hW f1_1 db_c1 0 (by decide) (hts _ wd_146) rfl hin2 rfl (v := .ref sz) rfl rfl (Nat.le_of_ble_eq_true rfl) dX1_init_8 (fun H locs hz1 hW => ?_)
  have hz := hz1.trans hz
  have hW : db_W Γ A s.heap (db_set h1 a (.inr (1, [.ref sz, .null, .int 0]))) H locs := hW
  obtain ⟨h2, eh2⟩ : ∃ w, w = db_set h1 a (.inr (1, [.ref sz, .null, .int 0])) := ⟨_, rfl⟩
  rw [← eh2] at hW
  have f2 : h2 a = some (.inr (1, [.ref sz, .null, .int 0])) := by rw [eh2]; exact db_ss
  have f2_1 : h2 sz = some (.inl (Γ.2 0, n, .inl (fun _ => 0))) := by rw [eh2]; exact (db_sn (by omega)).trans f1
  refine lv_aload_n hx hb dX1_init_11 rfl (lv_at hl 0 rfl) ?_
  refine lv_iload_n hx hb dX1_init_12 rfl (lv_at hl 1 rfl) ?_
  refine db_newI hx hb hts hK hW wd_139 (k := n) rfl (by omega) (by show 0 + 1 + 1 ≤ 2; omega) (by show 0 + n + n ≤ 200; omega) dX1_init_13 hz (fun H hW hno hz => ?_)
  have hz : H.size = sz + 2 := hz
  obtain ⟨h3, eh3⟩ : ∃ w, w = db_set h2 (sz + 1) (.inl (Γ.2 0, n, .inl (fun _ => 0))) := ⟨_, rfl⟩
  rw [← eh3] at hW
  have f3 : h3 (sz + 1) = some (.inl (Γ.2 0, n, .inl (fun _ => 0))) := by rw [eh3]; exact db_ss
  have f3_1 : h3 a = some (.inr (1, [.ref sz, .null, .int 0])) := by rw [eh3]; exact (db_sn (by omega)).trans f2
  have f3_2 : h3 sz = some (.inl (Γ.2 0, n, .inl (fun _ => 0))) := by rw [eh3]; exact (db_sn (by omega)).trans f2_1
  refine db_putFS hx hb hts hown hK hW f3_1 db_c1 1 (by decide) (hts _ wd_148) rfl hin2 rfl (v := .ref (sz + 1)) rfl rfl (Nat.le_of_ble_eq_true rfl) dX1_init_15 (fun H locs hz1 hW => ?_)
  have hz := hz1.trans hz
  have hW : db_W Γ A s.heap (db_set h3 a (.inr (1, [.ref sz, .ref (sz + 1), .int 0]))) H locs := hW
  obtain ⟨h4, eh4⟩ : ∃ w, w = db_set h3 a (.inr (1, [.ref sz, .ref (sz + 1), .int 0])) := ⟨_, rfl⟩
  rw [← eh4] at hW
  have f4 : h4 a = some (.inr (1, [.ref sz, .ref (sz + 1), .int 0])) := by rw [eh4]; exact db_ss
  have f4_1 : h4 (sz + 1) = some (.inl (Γ.2 0, n, .inl (fun _ => 0))) := by rw [eh4]; exact (db_sn (by omega)).trans f3
  have f4_2 : h4 sz = some (.inl (Γ.2 0, n, .inl (fun _ => 0))) := by rw [eh4]; exact (db_sn (by omega)).trans f3_2
  refine W.widen (k := 2) (n := 200) (by omega) (by omega) (W.mono hQ ?_)
  exact W.vret hx hb hr (fun t ht _ => hret _ _ _ none hW (⟨rfl, by rw [eh4, eh3, eh2, eh1], hz⟩) t ht) hW.2.2.1.2.2 dX1_init_18 hlocks

set_option maxHeartbeats 4000000 in
set_option maxRecDepth 100000 in
theorem n_X2_init (l : Launch) (Γ : db_G) (a : Nat) (sz : Nat) (h : db_Mem) (ha : h a = some (.inr (2, [.null, .int 0]))) : db_N l Γ yX2_init cX2_init 1 none (db_rc 1 24 1 100) [.ref a] h sz (fun v h' z => v = none ∧ h' = db_set (db_set h sz (.inl (Γ.2 0, 100, .inl (fun _ => 0)))) a (.inr (2, [.ref sz, .int 0])) ∧ z = sz + 1) := by
  refine db_introN (by decide +kernel) (Nat.le_of_ble_eq_true rfl) ?_
  intro p e s m args below meth c A Q ls hC hnm hz hW hl hret hQ
  have hC : db_Cx p s m args meth c Γ RX2 cX2_init 1 none := hC
  obtain ⟨hx, hb, hml, hr, hlocks, hown, hts, hK⟩ := id hC
  have hin2 : meth.name = "<init>" := hnm
  have hl : lv_has ls 1 [(0, .ref a)] := hl
  have hasz : a < sz := by rw [← hz]; exact (hW.1 _ _ ha).lt
  refine lv_aload_n hx hb dX2_init_0 rfl (lv_at hl 0 rfl) ?_
  refine db_objI hC hl.1 wd_164 wd_17 wo_code (by decide) (Nat.le_of_ble_eq_true rfl) dX2_init_1 ?_
  refine lv_aload_n hx hb dX2_init_4 rfl (lv_at hl 0 rfl) ?_
  refine lv_bipush (v := 100) hx hb dX2_init_5 (by decide) ?_
  refine db_newI hx hb hts hK hW wd_139 (k := 100) rfl (by decide) (by show 0 + 1 ≤ 1; omega) (by show 0 + 100 ≤ 100; omega) dX2_init_7 hz (fun H hW hno hz => ?_)
  have hz : H.size = sz + 1 := hz
  obtain ⟨h1, eh1⟩ : ∃ w, w = db_set h sz (.inl (Γ.2 0, 100, .inl (fun _ => 0))) := ⟨_, rfl⟩
  rw [← eh1] at hW
  have f1 : h1 sz = some (.inl (Γ.2 0, 100, .inl (fun _ => 0))) := by rw [eh1]; exact db_ss
  have f1_1 : h1 a = some (.inr (2, [.null, .int 0])) := by rw [eh1]; exact (db_sn (by omega)).trans ha
  refine db_putFS hx hb hts hown hK hW f1_1 db_c2 0 (by decide) (hts _ wd_165) rfl hin2 rfl (v := .ref sz) rfl rfl (Nat.le_of_ble_eq_true rfl) dX2_init_9 (fun H locs hz1 hW => ?_)
  have hz := hz1.trans hz
  have hW : db_W Γ A s.heap (db_set h1 a (.inr (2, [.ref sz, .int 0]))) H locs := hW
  obtain ⟨h2, eh2⟩ : ∃ w, w = db_set h1 a (.inr (2, [.ref sz, .int 0])) := ⟨_, rfl⟩
  rw [← eh2] at hW
  have f2 : h2 a = some (.inr (2, [.ref sz, .int 0])) := by rw [eh2]; exact db_ss
  have f2_1 : h2 sz = some (.inl (Γ.2 0, 100, .inl (fun _ => 0))) := by rw [eh2]; exact (db_sn (by omega)).trans f1
  refine W.widen (k := 1) (n := 100) (by omega) (by omega) (W.mono hQ ?_)
  exact W.vret hx hb hr (fun t ht _ => hret _ _ _ none hW (⟨rfl, by rw [eh2, eh1], hz⟩) t ht) hW.2.2.1.2.2 dX2_init_12 hlocks

set_option maxHeartbeats 4000000 in
set_option maxRecDepth 100000 in
theorem n_X4_init (l : Launch) (Γ : db_G) (a : Nat) (sz : Nat) (h : db_Mem) (n : Nat) (ha : h a = some (.inr (4, [.null, .int 0]))) (hn : n ≤ 120) : db_N l Γ yX4_init cX4_init 2 none (db_rc 1 24 1 120) [.ref a, .int (nI n)] h sz (fun v h' z => v = none ∧ h' = db_set (db_set h sz (.inl (Γ.2 3, n, .inr (.inr (.inr (.inr (fun _ => none))))))) a (.inr (4, [.ref sz, .int 0])) ∧ z = sz + 1) := by
  refine db_introN (by decide +kernel) (Nat.le_of_ble_eq_true rfl) ?_
  intro p e s m args below meth c A Q ls hC hnm hz hW hl hret hQ
  have hC : db_Cx p s m args meth c Γ RX4 cX4_init 2 none := hC
  obtain ⟨hx, hb, hml, hr, hlocks, hown, hts, hK⟩ := id hC
  have hin2 : meth.name = "<init>" := hnm
  have hl : lv_has ls 2 [(0, .ref a), (1, .int (nI n))] := hl
  have hasz : a < sz := by rw [← hz]; exact (hW.1 _ _ ha).lt
  refine lv_aload_n hx hb dX4_init_0 rfl (lv_at hl 0 rfl) ?_
  refine db_objI hC hl.1 wd_127 wd_17 wo_code (by decide) (Nat.le_of_ble_eq_true rfl) dX4_init_1 ?_
  refine lv_aload_n hx hb dX4_init_4 rfl (lv_at hl 0 rfl) ?_
  refine lv_iload_n hx hb dX4_init_5 rfl (lv_at hl 1 rfl) ?_
  refine db_newQ hx hb hts hown hK hW (t0 := 3) wd_128 hK.2.2.2 rfl (k := n) rfl (by omega) (by show 0 + 1 ≤ 1; omega) (by show 0 + n ≤ 120; omega) dX4_init_6 hz (fun H hW hno hz => ?_)
  have hz : H.size = sz + 1 := hz
  obtain ⟨h1, eh1⟩ : ∃ w, w = db_set h sz (.inl (Γ.2 3, n, .inr (.inr (.inr (.inr (fun _ => none)))))) := ⟨_, rfl⟩
  rw [← eh1] at hW
  have f1 : h1 sz = some (.inl (Γ.2 3, n, .inr (.inr (.inr (.inr (fun _ => none)))))) := by rw [eh1]; exact db_ss
  have f1_1 : h1 a = some (.inr (4, [.null, .int 0])) := by rw [eh1]; exact (db_sn (by omega)).trans ha
  refine db_putFS hx hb hts hown hK hW f1_1 db_c4 0 (by decide) (hts _ wd_130) rfl hin2 rfl (v := .ref sz) rfl rfl (Nat.le_of_ble_eq_true rfl) dX4_init_9 (fun H locs hz1 hW => ?_)
  have hz := hz1.trans hz
  have hW : db_W Γ A s.heap (db_set h1 a (.inr (4, [.ref sz, .int 0]))) H locs := hW
  obtain ⟨h2, eh2⟩ : ∃ w, w = db_set h1 a (.inr (4, [.ref sz, .int 0])) := ⟨_, rfl⟩
  rw [← eh2] at hW
  have f2 : h2 a = some (.inr (4, [.ref sz, .int 0])) := by rw [eh2]; exact db_ss
  have f2_1 : h2 sz = some (.inl (Γ.2 3, n, .inr (.inr (.inr (.inr (fun _ => none)))))) := by rw [eh2]; exact (db_sn (by omega)).trans f1
  refine W.widen (k := 1) (n := 120) (by omega) (by omega) (W.mono hQ ?_)
  exact W.vret hx hb hr (fun t ht _ => hret _ _ _ none hW (⟨rfl, by rw [eh2, eh1], hz⟩) t ht) hW.2.2.1.2.2 dX4_init_12 hlocks
