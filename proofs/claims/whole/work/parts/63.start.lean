/-! the law's start: five cells, the two constructors -/
theorem lw_blind {b L k : Nat} {xs : Nat → Int32} : FrameBlind (lw_PcX b L xs k) := by
  intro a U g mk q
  obtain ⟨q0, q1⟩ := q
  exact ⟨q0, q1⟩
theorem lw_split {Γ : db_G} {A : Nat → Prop} {H0 H1 : Heap} {locs : List Loc} {hB : db_Mem} {z : Nat} {x : va_E} (h : db_W Γ A H0 (db_set hB z x) H1 locs) (hz : hB z = none) : db_W2 Γ A H0 (db_set (fun _ => none) z x) hB H1 locs := by
  have h1 : ∀ a y, db_set (fun _ => none) z x a = some y → db_set hB z x a = some y := by
    intro a y hy
    unfold db_set at hy ⊢
    by_cases ca : a = z
    · rw [if_pos ca] at hy ⊢
      exact hy
    · rw [if_neg ca] at hy
      cases hy
  have h2 : ∀ a y, hB a = some y → ¬ a = z := by
    intro a y hy ca
    rw [ca, hz] at hy
    cases hy
  have h3 : ∀ a y, hB a = some y → db_set hB z x a = some y := by
    intro a y hy
    unfold db_set
    rw [if_neg (h2 a y hy)]
    exact hy
  refine ⟨⟨fun a y hy => h.1 a y (h1 a y hy), fun a y hy => h.2.1 a y (h1 a y hy), h.2.2.1, h.2.2.2⟩, fun a y hy => h.1 a y (h3 a y hy), fun a y hy => ?_, fun a y hy => h.2.1 a y (h3 a y hy)⟩
  unfold db_set
  rw [if_neg (h2 a y hy)]
section LAWS
variable {p : Program} {l : Launch} {e : Env} {R : Room} {s : State} {m : MethodId} {args : Array Value} {below : List Frame} {meth : Method} {c : Code} {H : Heap} {locs : List Loc} {cells slots : Nat} {Q : State → Prop}
variable {cc : ByteArray} {pc nL : Nat} {ls : Array Slot} {rest st0 : List Value} {Γ : db_G} {ret0 : Option FieldType} {hB hM : db_Mem} {b L : Nat} {xs : Nat → Int32}
theorem lw_cell (k : Nat) (hC : db_Cx p s m args meth c Γ RL cc nL ret0) (hX : va_X b L xs s s.heap) (hbl : b < s.heap.size) (hL : L < 2 ^ 31) (hk : k < 2 ^ 31) (hS : va_S (fun z => s.heap.size ≤ z) s.heap H locs) (hw : db_cw R yL_cell cL_cell 2 (some .int) (db_rm 0 0) 2)
    (hsz : ls.size = nL) (hst : st0 = .int (nI k) :: .ref b :: rest) (hr : (rest.map fun v => v.category).sum ≤ 8) (hdg : decode cc pc = .ok (.invokestatic 9, 3)) (hf : cells + 0 ≤ R.cells ∧ slots + 0 ≤ R.slots)
    (kk : W p l e R s m args below meth c H locs cells slots Q (F0 m (pc + 3) ls (.int (lw_at L xs k) :: rest))) : W p l e R s m args below meth c H locs cells slots Q (F0 m pc ls st0) := by
  obtain ⟨hx, hbb, hml, -, -, hown, hts, hK⟩ := hC
  have hbA : ¬ s.heap.size ≤ b := by omega
  have h1 : va_X b L xs s H := hX.kept (hS.2.1 b hbl hbA)
  have hp : PreS s H (lw_PcX b L xs k) [.ref b, .int (nI k)] := ⟨lw_blind, fun U hU hWm => ⟨rfl, by
    show va_X b L xs U U.heap
    rw [hU]
    exact h1.moved hWm.alike⟩⟩
  exact lw_run0 (va_runS ⟨hx, hbb, hml, hown, hts⟩ (c_L_cell l b L k xs hL hk) ⟨db_cB hts hw wd_429, hts _ wd_430⟩ hp rfl rfl hsz hst (lv_room hr) hdg hf) kk
end LAWS

set_option maxHeartbeats 4000000 in
set_option maxRecDepth 100000 in
theorem whole_start {p : Program} {e : Env} {s : State} {m : MethodId} {below : List Frame} {meth : Method} {c : Code} (l : Launch) {b L : Nat} {xs : Nat → Int32} (hL : L ≤ 2565) (C0 : lw_At p s m meth c b L xs) : W p l e room_1 s m #[Value.ref b] below meth c s.heap [] 0 0 (lw_Z below #[Value.ref b] s) (entryFrame m ([Value.ref b] : List Value).toArray 4) := by
  obtain ⟨hx, hb, hr, hml, hown, hts0, hX, hbl, hlocks, hgv⟩ := id C0
  obtain ⟨Γ, hK⟩ := lw_K hts0
  have hts := lw_gw hts0
  have hC : db_Cx p s m #[Value.ref b] meth c Γ RL cL_law 4 (some .boolean) := ⟨hx, hb, hml, hr, hlocks, hown, hts, hK⟩
  have hL31 : L < 2 ^ 31 := by omega
  have hl := lv_entry ([.ref b]) (n := 4) (Nat.le_of_ble_eq_true rfl)
  rw [lg_entry_eq]
  generalize (lg_sl ([.ref b]) ++ List.replicate (4 - (lg_sl ([.ref b])).length) Slot.unset).toArray = ls at hl ⊢
  have hl : lv_has ls 4 [(0, .ref b)] := hl
  have hW : db_W Γ (fun z => s.heap.size ≤ z) s.heap (fun _ => none) s.heap [] := ⟨(fun a x h => by cases h), (fun a x h => by cases h), va_S.rf, fun q h => h⟩
  refine db_newR hx hb hts hown hK hW db_c6 wd_11 wd_12 wd_1 (fs := [.null, .null, .null, .null, .null, .int 0, .int 0, .int 0]) (by decide +kernel) (by show 0 + 1 ≤ 600000; omega) (by show 0 + 8 ≤ 7302250; omega) dL_law_0 rfl (fun H hW hno hz => ?_)
  have hW := lw_split hW hno
  refine lv_dup hx hb dL_law_3 rfl ?_
  refine lv_aload_n hx hb dL_law_4 rfl (lv_at hl 0 rfl) ?_
  refine lv_iconst (v := 0) hx hb dL_law_5 (by decide) ?_
  refine lw_cell 0 hC hX hbl hL31 (by decide) hW.1.2.2.1 (cw_L_cell (Nat.le_of_ble_eq_true rfl) (Nat.le_of_ble_eq_true rfl)) hl.1 rfl (Nat.le_of_ble_eq_true rfl) dL_law_6 ⟨Nat.le_of_ble_eq_true rfl, Nat.le_of_ble_eq_true rfl⟩ ?_
  refine lv_aload_n hx hb dL_law_9 rfl (lv_at hl 0 rfl) ?_
  refine lv_iconst (v := 1) hx hb dL_law_10 (by decide) ?_
  refine lw_cell 1 hC hX hbl hL31 (by decide) hW.1.2.2.1 (cw_L_cell (Nat.le_of_ble_eq_true rfl) (Nat.le_of_ble_eq_true rfl)) hl.1 rfl (Nat.le_of_ble_eq_true rfl) dL_law_11 ⟨Nat.le_of_ble_eq_true rfl, Nat.le_of_ble_eq_true rfl⟩ ?_
  refine lv_aload_n hx hb dL_law_14 rfl (lv_at hl 0 rfl) ?_
  refine lv_iconst (v := 2) hx hb dL_law_15 (by decide) ?_
  refine lw_cell 2 hC hX hbl hL31 (by decide) hW.1.2.2.1 (cw_L_cell (Nat.le_of_ble_eq_true rfl) (Nat.le_of_ble_eq_true rfl)) hl.1 rfl (Nat.le_of_ble_eq_true rfl) dL_law_16 ⟨Nat.le_of_ble_eq_true rfl, Nat.le_of_ble_eq_true rfl⟩ ?_
  refine lv_aload_n hx hb dL_law_19 rfl (lv_at hl 0 rfl) ?_
  refine lv_iconst (v := 3) hx hb dL_law_20 (by decide) ?_
  refine lw_cell 3 hC hX hbl hL31 (by decide) hW.1.2.2.1 (cw_L_cell (Nat.le_of_ble_eq_true rfl) (Nat.le_of_ble_eq_true rfl)) hl.1 rfl (Nat.le_of_ble_eq_true rfl) dL_law_21 ⟨Nat.le_of_ble_eq_true rfl, Nat.le_of_ble_eq_true rfl⟩ ?_
  refine lv_aload_n hx hb dL_law_24 rfl (lv_at hl 0 rfl) ?_
  refine lv_iconst (v := 4) hx hb dL_law_25 (by decide) ?_
  refine lw_cell 4 hC hX hbl hL31 (by decide) hW.1.2.2.1 (cw_L_cell (Nat.le_of_ble_eq_true rfl) (Nat.le_of_ble_eq_true rfl)) hl.1 rfl (Nat.le_of_ble_eq_true rfl) dL_law_26 ⟨Nat.le_of_ble_eq_true rfl, Nat.le_of_ble_eq_true rfl⟩ ?_
  refine lw_callI (As := [.int (lw_at L xs 0), .int (lw_at L xs 1), .int (lw_at L xs 2), .int (lw_at L xs 3), .int (lw_at L xs 4)]) (rest := [.ref s.heap.size]) hC hW hz (n_X6_init l Γ s.heap.size _ (lw_at L xs 0) (lw_at L xs 1) (lw_at L xs 2) (lw_at L xs 3) (lw_at L xs 4) (bb_near (lw_at L xs 0) 1 40) (bb_near (lw_at L xs 1) 0 16) (bb_near (lw_at L xs 2) 0 120) (bb_near (lw_at L xs 3) 0 100) (bb_near (lw_at L xs 4) 1 20000) rfl rfl rfl rfl rfl (if_pos rfl)) (cw_X6_init (Nat.le_of_ble_eq_true rfl) (Nat.le_of_ble_eq_true rfl)) wd_13 wd_14 rfl rfl hl.1 rfl (Nat.le_of_ble_eq_true rfl) dL_law_29 ⟨Nat.le_of_ble_eq_true rfl, Nat.le_of_ble_eq_true rfl⟩ (fun v hB H locs hP hW => ?_)
  obtain ⟨rfl, Lb, eLb, hRb⟩ := hP
  refine lv_astore_n (lv' := [(1, .ref s.heap.size), (0, .ref b)]) hx hb dL_law_32 rfl hl (by decide) rfl (fun ls hl => ?_)
  refine db_newR hx hb hts hown hK hW.1 db_c7 wd_432 wd_433 wd_9 (fs := [.int 0, .int 0, .int 0, .int 0, .int 0, .int 0, .null, .null, .null, .null, .null, .null, .null, .null, .null, .null, .null, .null, .null, .null, .null, .null, .null, .null, .int 0, .null, .null, .null, .null, .null, .int 0, .null, .null, .null, .int 0, .int 0]) (by decide +kernel) (Nat.le_of_ble_eq_true rfl) (Nat.le_of_ble_eq_true rfl) dL_law_33 rfl (fun H1 hW hno hz => ?_)
  have hW := lw_split hW hno
  refine lv_dup hx hb dL_law_36 rfl ?_
  refine lv_aload_n hx hb dL_law_37 rfl (lv_at hl 1 rfl) ?_
  refine lv_iconst (v := 0) hx hb dL_law_38 (by decide) ?_
  refine lw_cell 0 hC hX hbl hL31 (by decide) hW.1.2.2.1 (cw_L_cell (Nat.le_of_ble_eq_true rfl) (Nat.le_of_ble_eq_true rfl)) hl.1 rfl (Nat.le_of_ble_eq_true rfl) dL_law_39 ⟨Nat.le_of_ble_eq_true rfl, Nat.le_of_ble_eq_true rfl⟩ ?_
  refine lv_aload_n hx hb dL_law_42 rfl (lv_at hl 1 rfl) ?_
  refine lv_iconst (v := 1) hx hb dL_law_43 (by decide) ?_
  refine lw_cell 1 hC hX hbl hL31 (by decide) hW.1.2.2.1 (cw_L_cell (Nat.le_of_ble_eq_true rfl) (Nat.le_of_ble_eq_true rfl)) hl.1 rfl (Nat.le_of_ble_eq_true rfl) dL_law_44 ⟨Nat.le_of_ble_eq_true rfl, Nat.le_of_ble_eq_true rfl⟩ ?_
  refine lv_aload_n hx hb dL_law_47 rfl (lv_at hl 1 rfl) ?_
  refine lv_iconst (v := 2) hx hb dL_law_48 (by decide) ?_
  refine lw_cell 2 hC hX hbl hL31 (by decide) hW.1.2.2.1 (cw_L_cell (Nat.le_of_ble_eq_true rfl) (Nat.le_of_ble_eq_true rfl)) hl.1 rfl (Nat.le_of_ble_eq_true rfl) dL_law_49 ⟨Nat.le_of_ble_eq_true rfl, Nat.le_of_ble_eq_true rfl⟩ ?_
  refine lv_aload_n hx hb dL_law_52 rfl (lv_at hl 1 rfl) ?_
  refine lv_iconst (v := 3) hx hb dL_law_53 (by decide) ?_
  refine lw_cell 3 hC hX hbl hL31 (by decide) hW.1.2.2.1 (cw_L_cell (Nat.le_of_ble_eq_true rfl) (Nat.le_of_ble_eq_true rfl)) hl.1 rfl (Nat.le_of_ble_eq_true rfl) dL_law_54 ⟨Nat.le_of_ble_eq_true rfl, Nat.le_of_ble_eq_true rfl⟩ ?_
  refine lv_aload_n hx hb dL_law_57 rfl (lv_at hl 1 rfl) ?_
  refine lv_iconst (v := 4) hx hb dL_law_58 (by decide) ?_
  refine lw_cell 4 hC hX hbl hL31 (by decide) hW.1.2.2.1 (cw_L_cell (Nat.le_of_ble_eq_true rfl) (Nat.le_of_ble_eq_true rfl)) hl.1 rfl (Nat.le_of_ble_eq_true rfl) dL_law_59 ⟨Nat.le_of_ble_eq_true rfl, Nat.le_of_ble_eq_true rfl⟩ ?_
  refine lw_callI (As := [.int (lw_at L xs 0), .int (lw_at L xs 1), .int (lw_at L xs 2), .int (lw_at L xs 3), .int (lw_at L xs 4)]) (rest := [.ref H.size]) hC hW hz (n_X7_init l Γ H.size _ (lw_at L xs 0) (lw_at L xs 1) (lw_at L xs 2) (lw_at L xs 3) (lw_at L xs 4) (bb_near (lw_at L xs 0) 1 40) (bb_near (lw_at L xs 1) 0 16) (bb_near (lw_at L xs 2) 0 120) (bb_near (lw_at L xs 3) 0 100) (bb_near (lw_at L xs 4) 1 20000) rfl rfl rfl rfl rfl (if_pos rfl)) (cw_X7_init (Nat.le_of_ble_eq_true rfl) (Nat.le_of_ble_eq_true rfl)) wd_434 wd_435 rfl rfl hl.1 rfl (Nat.le_of_ble_eq_true rfl) dL_law_62 ⟨Nat.le_of_ble_eq_true rfl, Nat.le_of_ble_eq_true rfl⟩ (fun v hM H2 locs hP hW => ?_)
  obtain ⟨rfl, Lm, eLm, hRm⟩ := hP
  have hW := hW.sw
  refine lv_astore_n (lv' := [(2, .ref H.size), (1, .ref s.heap.size), (0, .ref b)]) hx hb dL_law_65 rfl hl (by decide) rfl (fun ls hl => ?_)
  refine lv_iconst (v := nI 5) hx hb dL_law_66 (by decide) ?_
  refine lv_istore_n (lv' := [(3, .int (nI 5)), (2, .ref H.size), (1, .ref s.heap.size), (0, .ref b)]) hx hb dL_law_67 rfl hl (by decide) rfl (fun ls hl => ?_)
  rw [← eLb, ← eLm] at hl
  have h0 := bb_near_in (v := lw_at L xs 0) (lo := 1) (hi := 40) (by decide)
  have h1 := bb_near_in (v := lw_at L xs 1) (lo := 0) (hi := 16) (by decide)
  have h2 := bb_near_in (v := lw_at L xs 2) (lo := 0) (hi := 120) (by decide)
  have h3 := bb_near_in (v := lw_at L xs 3) (lo := 0) (hi := 100) (by decide)
  have h4 := bb_near_in (v := lw_at L xs 4) (lo := 1) (hi := 20000) (by decide)
  have hN : bb_N (bb_mkN (bb_near (lw_at L xs 0) 1 40) (bb_near (lw_at L xs 1) 0 16) (bb_near (lw_at L xs 2) 0 120) (bb_near (lw_at L xs 3) 0 100)) := ⟨h0.1, h0.2, h1.2, h2.2, h3.2⟩
  exact lw_loop hC hX hbl (by omega) hN 513 5 (by omega) (by omega) Lb Lm _ _ 0 0 0 0 (bb_near (lw_at L xs 4) 1 20000) hB hM H2 locs _ _ ls (s_start h0.2 h4.1 h4.2) hRb hRm hW (lv_sub hl [3, 2, 1, 0] rfl) (Nat.le_of_ble_eq_true rfl) (Nat.le_of_ble_eq_true rfl) (by decide)
