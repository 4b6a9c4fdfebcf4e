set_option maxHeartbeats 4000000 in
set_option maxRecDepth 100000 in
theorem c_X7_remaining (l : Launch) (Γ : db_G) (N : Nat → Nat) (L : Nat → Nat → Nat) (X : db_X) (hN : bb_N N) (t : Int32) : db_C l Γ yX7_remaining cX7_remaining 2 (some .int) (db_rm 2 42) [.ref (L 0 0), .int t] L mm_ok (mm_cel Γ N L) X (some (.int (mm_remaining N X t))) X := by
  have hn0 : N 0 < 2 ^ 31 := by have := hN.2.1; omega
  have hn1 : N 1 < 2 ^ 31 := by have := hN.2.2.1; omega
  have hn2 : N 2 < 2 ^ 31 := by have := hN.2.2.2.1; omega
  have hn3 : N 3 < 2 ^ 31 := by have := hN.2.2.2.2; omega
  refine db_introI (by decide +kernel) (Nat.le_of_ble_eq_true rfl) ?_
  intro p e s m args below meth c A Q ls hC hS hl hret
  have hC : db_Cx p s m args meth c Γ RX7 cX7_remaining 2 (some .int) := hC
  obtain ⟨hx, hb, hml, hr, hlocks, hown, hts, hK⟩ := id hC
  have hl : lv_has ls 2 [(0, .ref (L 0 0)), (1, .int t)] := hl
  refine lv_aload_n hx hb dX7_remaining_0 rfl (lv_at hl 0 rfl) ?_
  refine lv_iload_n hx hb dX7_remaining_1 rfl (lv_at hl 1 rfl) ?_
  refine db_cV (As := [.int t]) (rest := []) (st1 := [.int (mm_isP N X t)]) hC hS 0 0 (mm_k 0 rfl) rfl db_c7 (c_X7_isPending l Γ N L X hN t ) (cw_X7_isPending (Nat.le_of_ble_eq_true rfl) (Nat.le_of_ble_eq_true rfl)) wd_591 wd_593 ws_41 rfl hl.1 rfl (Nat.le_of_ble_eq_true rfl) dX7_remaining_2 ⟨Nat.le_of_ble_eq_true rfl, Nat.le_of_ble_eq_true rfl⟩ rfl (fun H locs hS => ?_)
  refine lv_if_eq (tgt := 24) hx hb dX7_remaining_5 (by decide) (fun c5 => ?_) (fun c5 => ?_)
  · refine lv_iconst (v := 0) hx hb dX7_remaining_24 (by decide) ?_
    exact hret _ _ _ _ _ _ hS (by simp [mm_remaining, c5]) (rfl) dX7_remaining_25
  · obtain ⟨j, hj, rfl⟩ := mm_isP_ix hn0 c5
    refine lv_aload_n hx hb dX7_remaining_8 rfl (lv_at hl 0 rfl) ?_
    refine db_get hx hb hts hown hK hS 0 0 (mm_k 0 rfl) rfl db_c7 8 (by decide) wd_449 rfl dX7_remaining_9 ?_
    refine lv_iload_n hx hb dX7_remaining_12 rfl (lv_at hl 1 rfl) ?_
    refine db_ild hx hb hK hS 8 0 (mm_k 8 rfl) rfl j rfl (Nat.lt_of_lt_of_le hj hN.2.1) (by decide) dX7_remaining_13 ?_
    refine lv_aload_n hx hb dX7_remaining_14 rfl (lv_at hl 0 rfl) ?_
    refine db_get hx hb hts hown hK hS 0 0 (mm_k 0 rfl) rfl db_c7 20 (by decide) wd_461 rfl dX7_remaining_15 ?_
    refine lv_iload_n hx hb dX7_remaining_18 rfl (lv_at hl 1 rfl) ?_
    refine db_ild hx hb hK hS 20 0 (mm_k 20 rfl) rfl j rfl (Nat.lt_of_lt_of_le hj hN.2.1) (by decide) dX7_remaining_19 ?_
    refine lv_isub hx hb dX7_remaining_20 ?_
    refine lv_goto (tgt := 25) hx hb dX7_remaining_21 (by decide) ?_
    exact hret _ _ _ _ _ _ hS (by simp [mm_remaining, c5, db_nIc hj hn0]) (rfl) dX7_remaining_25

set_option maxHeartbeats 4000000 in
set_option maxRecDepth 100000 in
theorem c_X7_deadlineOf (l : Launch) (Γ : db_G) (N : Nat → Nat) (L : Nat → Nat → Nat) (X : db_X) (hN : bb_N N) (t : Int32) : db_C l Γ yX7_deadlineOf cX7_deadlineOf 2 (some .int) (db_rm 2 42) [.ref (L 0 0), .int t] L mm_ok (mm_cel Γ N L) X (some (.int (mm_deadlineOf N X t))) X := by
  have hn0 : N 0 < 2 ^ 31 := by have := hN.2.1; omega
  have hn1 : N 1 < 2 ^ 31 := by have := hN.2.2.1; omega
  have hn2 : N 2 < 2 ^ 31 := by have := hN.2.2.2.1; omega
  have hn3 : N 3 < 2 ^ 31 := by have := hN.2.2.2.2; omega
  refine db_introI (by decide +kernel) (Nat.le_of_ble_eq_true rfl) ?_
  intro p e s m args below meth c A Q ls hC hS hl hret
  have hC : db_Cx p s m args meth c Γ RX7 cX7_deadlineOf 2 (some .int) := hC
  obtain ⟨hx, hb, hml, hr, hlocks, hown, hts, hK⟩ := id hC
  have hl : lv_has ls 2 [(0, .ref (L 0 0)), (1, .int t)] := hl
  refine lv_aload_n hx hb dX7_deadlineOf_0 rfl (lv_at hl 0 rfl) ?_
  refine lv_iload_n hx hb dX7_deadlineOf_1 rfl (lv_at hl 1 rfl) ?_
  refine db_cV (As := [.int t]) (rest := []) (st1 := [.int (mm_isP N X t)]) hC hS 0 0 (mm_k 0 rfl) rfl db_c7 (c_X7_isPending l Γ N L X hN t ) (cw_X7_isPending (Nat.le_of_ble_eq_true rfl) (Nat.le_of_ble_eq_true rfl)) wd_591 wd_593 ws_41 rfl hl.1 rfl (Nat.le_of_ble_eq_true rfl) dX7_deadlineOf_2 ⟨Nat.le_of_ble_eq_true rfl, Nat.le_of_ble_eq_true rfl⟩ rfl (fun H locs hS => ?_)
  refine lv_if_eq (tgt := 17) hx hb dX7_deadlineOf_5 (by decide) (fun c5 => ?_) (fun c5 => ?_)
  · refine lv_iconst (v := -1) hx hb dX7_deadlineOf_17 (by decide) ?_
    exact hret _ _ _ _ _ _ hS (by simp [mm_deadlineOf, c5]) (rfl) dX7_deadlineOf_18
  · obtain ⟨j, hj, rfl⟩ := mm_isP_ix hn0 c5
    refine lv_aload_n hx hb dX7_deadlineOf_8 rfl (lv_at hl 0 rfl) ?_
    refine db_get hx hb hts hown hK hS 0 0 (mm_k 0 rfl) rfl db_c7 19 (by decide) wd_460 rfl dX7_deadlineOf_9 ?_
    refine lv_iload_n hx hb dX7_deadlineOf_12 rfl (lv_at hl 1 rfl) ?_
    refine db_ild hx hb hK hS 19 0 (mm_k 19 rfl) rfl j rfl (Nat.lt_of_lt_of_le hj hN.2.1) (by decide) dX7_deadlineOf_13 ?_
    refine lv_goto (tgt := 18) hx hb dX7_deadlineOf_14 (by decide) ?_
    exact hret _ _ _ _ _ _ hS (by simp [mm_deadlineOf, c5, db_nIc hj hn0]) (rfl) dX7_deadlineOf_18

set_option maxHeartbeats 4000000 in
set_option maxRecDepth 100000 in
theorem c_X7_waitsFor (l : Launch) (Γ : db_G) (N : Nat → Nat) (L : Nat → Nat → Nat) (X : db_X) (hN : bb_N N) (t : Int32) : db_C l Γ yX7_waitsFor cX7_waitsFor 2 (some .int) (db_rm 2 42) [.ref (L 0 0), .int t] L mm_ok (mm_cel Γ N L) X (some (.int (mm_waitsFor N X t))) X := by
  have hn0 : N 0 < 2 ^ 31 := by have := hN.2.1; omega
  have hn1 : N 1 < 2 ^ 31 := by have := hN.2.2.1; omega
  have hn2 : N 2 < 2 ^ 31 := by have := hN.2.2.2.1; omega
  have hn3 : N 3 < 2 ^ 31 := by have := hN.2.2.2.2; omega
  refine db_introI (by decide +kernel) (Nat.le_of_ble_eq_true rfl) ?_
  intro p e s m args below meth c A Q ls hC hS hl hret
  have hC : db_Cx p s m args meth c Γ RX7 cX7_waitsFor 2 (some .int) := hC
  obtain ⟨hx, hb, hml, hr, hlocks, hown, hts, hK⟩ := id hC
  have hl : lv_has ls 2 [(0, .ref (L 0 0)), (1, .int t)] := hl
  refine lv_aload_n hx hb dX7_waitsFor_0 rfl (lv_at hl 0 rfl) ?_
  refine lv_iload_n hx hb dX7_waitsFor_1 rfl (lv_at hl 1 rfl) ?_
  refine db_cV (As := [.int t]) (rest := []) (st1 := [.int (mm_isP N X t)]) hC hS 0 0 (mm_k 0 rfl) rfl db_c7 (c_X7_isPending l Γ N L X hN t ) (cw_X7_isPending (Nat.le_of_ble_eq_true rfl) (Nat.le_of_ble_eq_true rfl)) wd_591 wd_593 ws_41 rfl hl.1 rfl (Nat.le_of_ble_eq_true rfl) dX7_waitsFor_2 ⟨Nat.le_of_ble_eq_true rfl, Nat.le_of_ble_eq_true rfl⟩ rfl (fun H locs hS => ?_)
  refine lv_if_eq (tgt := 17) hx hb dX7_waitsFor_5 (by decide) (fun c5 => ?_) (fun c5 => ?_)
  · refine lv_iconst (v := -1) hx hb dX7_waitsFor_17 (by decide) ?_
    exact hret _ _ _ _ _ _ hS (by simp [mm_waitsFor, c5]) (rfl) dX7_waitsFor_18
  · obtain ⟨j, hj, rfl⟩ := mm_isP_ix hn0 c5
    refine lv_aload_n hx hb dX7_waitsFor_8 rfl (lv_at hl 0 rfl) ?_
    refine db_get hx hb hts hown hK hS 0 0 (mm_k 0 rfl) rfl db_c7 21 (by decide) wd_462 rfl dX7_waitsFor_9 ?_
    refine lv_iload_n hx hb dX7_waitsFor_12 rfl (lv_at hl 1 rfl) ?_
    refine db_ild hx hb hK hS 21 0 (mm_k 21 rfl) rfl j rfl (Nat.lt_of_lt_of_le hj hN.2.1) (by decide) dX7_waitsFor_13 ?_
    refine lv_goto (tgt := 18) hx hb dX7_waitsFor_14 (by decide) ?_
    exact hret _ _ _ _ _ _ hS (by simp [mm_waitsFor, c5, db_nIc hj hn0]) (rfl) dX7_waitsFor_18

set_option maxHeartbeats 4000000 in
set_option maxRecDepth 100000 in
theorem c_X7_owner (l : Launch) (Γ : db_G) (N : Nat → Nat) (L : Nat → Nat → Nat) (X : db_X) (hN : bb_N N) (t : Int32) : db_C l Γ yX7_owner cX7_owner 2 (some .int) (db_rm 1 21) [.ref (L 0 0), .int t] L mm_ok (mm_cel Γ N L) X (some (.int (mm_owner N X t))) X := by
  have hn0 : N 0 < 2 ^ 31 := by have := hN.2.1; omega
  have hn1 : N 1 < 2 ^ 31 := by have := hN.2.2.1; omega
  have hn2 : N 2 < 2 ^ 31 := by have := hN.2.2.2.1; omega
  have hn3 : N 3 < 2 ^ 31 := by have := hN.2.2.2.2; omega
  refine db_introI (by decide +kernel) (Nat.le_of_ble_eq_true rfl) ?_
  intro p e s m args below meth c A Q ls hC hS hl hret
  have hC : db_Cx p s m args meth c Γ RX7 cX7_owner 2 (some .int) := hC
  obtain ⟨hx, hb, hml, hr, hlocks, hown, hts, hK⟩ := id hC
  have hl : lv_has ls 2 [(0, .ref (L 0 0)), (1, .int t)] := hl
  refine lv_aload_n hx hb dX7_owner_0 rfl (lv_at hl 0 rfl) ?_
  refine lv_iload_n hx hb dX7_owner_1 rfl (lv_at hl 1 rfl) ?_
  refine db_cV (As := [.int t]) (rest := []) (st1 := [.int (bb_isLock N t)]) hC hS 0 0 (mm_k 0 rfl) rfl db_c7 (c_X7_isLock l Γ N L X hN t ) (cw_X7_isLock (Nat.le_of_ble_eq_true rfl) (Nat.le_of_ble_eq_true rfl)) wd_563 wd_565 ws_35 rfl hl.1 rfl (Nat.le_of_ble_eq_true rfl) dX7_owner_2 ⟨Nat.le_of_ble_eq_true rfl, Nat.le_of_ble_eq_true rfl⟩ rfl (fun H locs hS => ?_)
  refine lv_if_eq (tgt := 17) hx hb dX7_owner_5 (by decide) (fun c5 => ?_) (fun c5 => ?_)
  · refine lv_iconst (v := -1) hx hb dX7_owner_17 (by decide) ?_
    exact hret _ _ _ _ _ _ hS (by simp [mm_owner, c5]) (rfl) dX7_owner_18
  · obtain ⟨j, hj, rfl⟩ := bb_isLock_ix hn1 c5
    refine lv_aload_n hx hb dX7_owner_8 rfl (lv_at hl 0 rfl) ?_
    refine db_get hx hb hts hown hK hS 0 0 (mm_k 0 rfl) rfl db_c7 23 (by decide) wd_464 rfl dX7_owner_9 ?_
    refine lv_iload_n hx hb dX7_owner_12 rfl (lv_at hl 1 rfl) ?_
    refine db_ild hx hb hK hS 23 0 (mm_k 23 rfl) rfl j rfl (Nat.lt_of_lt_of_le hj hN.2.2.1) (by decide) dX7_owner_13 ?_
    refine lv_goto (tgt := 18) hx hb dX7_owner_14 (by decide) ?_
    exact hret _ _ _ _ _ _ hS (by simp [mm_owner, c5, db_nIc hj hn1]) (rfl) dX7_owner_18

set_option maxHeartbeats 4000000 in
set_option maxRecDepth 100000 in
theorem c_X7_effective (l : Launch) (Γ : db_G) (N : Nat → Nat) (L : Nat → Nat → Nat) (X : db_X) (hN : bb_N N) (t : Int32) (sz : Nat) (hI : mm_I N sz X) : db_C l Γ yX7_effective cX7_effective 2 (some .int) (db_rm 3 65) [.ref (L 0 0), .int t] L mm_ok (mm_cel Γ N L) X (some (.int ((mm_eff N X t).1))) ((mm_eff N X t).2) := by
  have hn0 : N 0 < 2 ^ 31 := by have := hN.2.1; omega
  have hn1 : N 1 < 2 ^ 31 := by have := hN.2.2.1; omega
  have hn2 : N 2 < 2 ^ 31 := by have := hN.2.2.2.1; omega
  have hn3 : N 3 < 2 ^ 31 := by have := hN.2.2.2.2; omega
  refine db_introI (by decide +kernel) (Nat.le_of_ble_eq_true rfl) ?_
  intro p e s m args below meth c A Q ls hC hS hl hret
  have hC : db_Cx p s m args meth c Γ RX7 cX7_effective 2 (some .int) := hC
  obtain ⟨hx, hb, hml, hr, hlocks, hown, hts, hK⟩ := id hC
  have hl : lv_has ls 2 [(0, .ref (L 0 0)), (1, .int t)] := hl
  refine lv_aload_n hx hb dX7_effective_0 rfl (lv_at hl 0 rfl) ?_
  refine lv_iload_n hx hb dX7_effective_1 rfl (lv_at hl 1 rfl) ?_
  refine db_cV (As := [.int t]) (rest := []) (st1 := [.int (mm_isP N X t)]) hC hS 0 0 (mm_k 0 rfl) rfl db_c7 (c_X7_isPending l Γ N L X hN t ) (cw_X7_isPending (Nat.le_of_ble_eq_true rfl) (Nat.le_of_ble_eq_true rfl)) wd_591 wd_593 ws_41 rfl hl.1 rfl (Nat.le_of_ble_eq_true rfl) dX7_effective_2 ⟨Nat.le_of_ble_eq_true rfl, Nat.le_of_ble_eq_true rfl⟩ rfl (fun H locs hS => ?_)
  refine lv_if_ne (tgt := 10) hx hb dX7_effective_5 (by decide) (fun c5 => ?_) (fun c5 => ?_)
  · obtain ⟨j, hj, rfl⟩ := mm_isP_ix hn0 c5
    refine lv_aload_n hx hb dX7_effective_10 rfl (lv_at hl 0 rfl) ?_
    refine db_cV (As := []) (rest := []) (st1 := []) hC hS 0 0 (mm_k 0 rfl) rfl db_c7 (c_X7_reckons l Γ N L X hN sz hI) (cw_X7_reckons (Nat.le_of_ble_eq_true rfl) (Nat.le_of_ble_eq_true rfl)) wd_587 wd_589 ws_40 rfl hl.1 rfl (Nat.le_of_ble_eq_true rfl) dX7_effective_11 ⟨Nat.le_of_ble_eq_true rfl, Nat.le_of_ble_eq_true rfl⟩ rfl (fun H locs hS => ?_)
    obtain ⟨X1, eX1⟩ : ∃ z, z = mm_rk N X := ⟨_, rfl⟩
    rw [← eX1] at hS
    refine lv_aload_n hx hb dX7_effective_14 rfl (lv_at hl 0 rfl) ?_
    refine db_get hx hb hts hown hK hS 0 0 (mm_k 0 rfl) rfl db_c7 29 (by decide) wd_470 rfl dX7_effective_15 ?_
    refine lv_iload_n hx hb dX7_effective_18 rfl (lv_at hl 1 rfl) ?_
    refine db_ild hx hb hK hS 29 0 (mm_k 29 rfl) rfl j rfl (Nat.lt_of_lt_of_le hj hN.2.1) (by decide) dX7_effective_19 ?_
    exact hret _ _ _ _ _ _ hS (by rw [mm_eff, if_neg c5, db_nIc hj hn0, ← eX1]) (by rw [mm_eff, if_neg c5, ← eX1]) dX7_effective_20
  · refine lv_iconst (v := -1) hx hb dX7_effective_8 (by decide) ?_
    exact hret _ _ _ _ _ _ hS (by rw [mm_eff, if_pos c5]) (by rw [mm_eff, if_pos c5]) dX7_effective_9

set_option maxHeartbeats 4000000 in
set_option maxRecDepth 100000 in
theorem c_X7_missCount (l : Launch) (Γ : db_G) (N : Nat → Nat) (L : Nat → Nat → Nat) (X : db_X) (hN : bb_N N) : db_C l Γ yX7_missCount cX7_missCount 1 (some .int) (db_rm 0 0) [.ref (L 0 0)] L mm_ok (mm_cel Γ N L) X (some (.int (X 0 0 30))) X := by
  have hn0 : N 0 < 2 ^ 31 := by have := hN.2.1; omega
  have hn1 : N 1 < 2 ^ 31 := by have := hN.2.2.1; omega
  have hn2 : N 2 < 2 ^ 31 := by have := hN.2.2.2.1; omega
  have hn3 : N 3 < 2 ^ 31 := by have := hN.2.2.2.2; omega
  refine db_introI (by decide +kernel) (Nat.le_of_ble_eq_true rfl) ?_
  intro p e s m args below meth c A Q ls hC hS hl hret
  have hC : db_Cx p s m args meth c Γ RX7 cX7_missCount 1 (some .int) := hC
  obtain ⟨hx, hb, hml, hr, hlocks, hown, hts, hK⟩ := id hC
  have hl : lv_has ls 1 [(0, .ref (L 0 0))] := hl
  refine lv_aload_n hx hb dX7_missCount_0 rfl (lv_at hl 0 rfl) ?_
  refine db_get hx hb hts hown hK hS 0 0 (mm_k 0 rfl) rfl db_c7 30 (by decide) wd_471 rfl dX7_missCount_1 ?_
  exact hret _ _ _ _ _ _ hS (rfl) (rfl) dX7_missCount_4

set_option maxHeartbeats 4000000 in
set_option maxRecDepth 100000 in
theorem c_X7_waiters (l : Launch) (Γ : db_G) (N : Nat → Nat) (L : Nat → Nat → Nat) (X : db_X) (hN : bb_N N) (t : Int32) : db_C l Γ yX7_waiters cX7_waiters 4 (some .int) (db_rm 2 42) [.ref (L 0 0), .int t] L mm_ok (mm_cel Γ N L) X (some (.int (mm_waiters N X t))) X := by
  have hn0 : N 0 < 2 ^ 31 := by have := hN.2.1; omega
  have hn1 : N 1 < 2 ^ 31 := by have := hN.2.2.1; omega
  have hn2 : N 2 < 2 ^ 31 := by have := hN.2.2.2.1; omega
  have hn3 : N 3 < 2 ^ 31 := by have := hN.2.2.2.2; omega
  refine db_introI (by decide +kernel) (Nat.le_of_ble_eq_true rfl) ?_
  intro p e s m args below meth c A Q ls hC hS hl hret
  have hC : db_Cx p s m args meth c Γ RX7 cX7_waiters 4 (some .int) := hC
  obtain ⟨hx, hb, hml, hr, hlocks, hown, hts, hK⟩ := id hC
  have hl : lv_has ls 4 [(0, .ref (L 0 0)), (1, .int t)] := hl
  refine lv_iconst (v := 0) hx hb dX7_waiters_0 (by decide) ?_
  refine lv_istore_n (lv' := [(2, .int 0), (0, .ref (L 0 0)), (1, .int t)]) hx hb dX7_waiters_1 rfl hl (by decide) rfl (fun ls hl => ?_)
  refine lv_iconst (v := 0) hx hb dX7_waiters_2 (by decide) ?_
  refine lv_istore_n (lv' := [(3, .int 0), (2, .int 0), (0, .ref (L 0 0)), (1, .int t)]) hx hb dX7_waiters_3 rfl hl (by decide) rfl (fun ls hl => ?_)
  have K4 : ∀ (q : Nat) (j : Nat) (acc : Int32) (hq : N 0 + 1 - j ≤ q) (hj0 : j ≤ N 0) (hacc : acc = db_cnt (fun j => decide (¬ mm_isP N X (nI j) = 0 ∧ X 21 0 j = t)) j) (hz : bb_isLock N t = 0 → j = 0) (H : Heap) (locs : List Loc) (hS : db_S Γ A s.heap L mm_ok (mm_cel Γ N L) X H locs) (ls : Array Slot) (hl : lv_has ls 4 [(0, .ref (L 0 0)), (1, .int t), (2, .int acc), (3, .int (nI j))]), W p l e (db_rm 2 42) s m args below meth c H locs 0 0 Q (F0 m 4 ls []) := by
    intro q4
    induction q4 with
    | zero =>
      intro j acc hq4 hj0 hacc hz
      exact absurd hq4 (by omega)
    | succ q4 ih4 =>
      intro j acc hq4 hj0 hacc hz H locs hS ls hl
      refine lv_iload_n hx hb dX7_waiters_4 rfl (lv_at hl 3 rfl) ?_
      refine lv_aload_n hx hb dX7_waiters_5 rfl (lv_at hl 0 rfl) ?_
      refine db_get hx hb hts hown hK hS 0 0 (mm_k 0 rfl) rfl db_c7 0 (by decide) wd_441 rfl dX7_waiters_6 ?_
      refine lv_icmp_ge (tgt := 52) hx hb dX7_waiters_9 (by decide) (fun c9 => ?_) (fun c9 => ?_)
      · have hj : j = N 0 := by
          rcases Nat.lt_or_ge j (N 0) with q9 | q9
          · exact absurd c9 (nI_ge q9 hn0)
          · omega
        refine lv_iload_n hx hb dX7_waiters_52 rfl (lv_at hl 2 rfl) ?_
        have hfin : acc = mm_waiters N X t := by
          unfold mm_waiters
          by_cases q9 : bb_isLock N t = 0
          · rw [if_pos q9, hacc, hz q9]; rfl
          · rw [if_neg q9, hacc, hj]
        exact hret _ _ _ _ _ _ hS (hfin) (rfl) dX7_waiters_53
      · have hj : j < N 0 := by
          rcases Nat.lt_or_ge j (N 0) with q9 | q9
          · exact q9
          · exact absurd (nI_le q9 (by omega)) c9
        refine lv_aload_n hx hb dX7_waiters_12 rfl (lv_at hl 0 rfl) ?_
        refine lv_iload_n hx hb dX7_waiters_13 rfl (lv_at hl 1 rfl) ?_
        refine db_cV (As := [.int t]) (rest := []) (st1 := [.int (bb_isLock N t)]) hC hS 0 0 (mm_k 0 rfl) rfl db_c7 (c_X7_isLock l Γ N L X hN t ) (cw_X7_isLock (Nat.le_of_ble_eq_true rfl) (Nat.le_of_ble_eq_true rfl)) wd_563 wd_565 ws_35 rfl hl.1 rfl (Nat.le_of_ble_eq_true rfl) dX7_waiters_14 ⟨Nat.le_of_ble_eq_true rfl, Nat.le_of_ble_eq_true rfl⟩ rfl (fun H locs hS => ?_)
        refine lv_if_eq (tgt := 52) hx hb dX7_waiters_17 (by decide) (fun c17 => ?_) (fun c17 => ?_)
        · refine lv_iload_n hx hb dX7_waiters_52 rfl (lv_at hl 2 rfl) ?_
          exact hret _ _ _ _ _ _ hS (by rw [mm_waiters, if_pos c17, hacc, hz c17]; rfl) (rfl) dX7_waiters_53
        · have K44 : ∀ (b : Int32) (he : acc + b = db_cnt (fun j => decide (¬ mm_isP N X (nI j) = 0 ∧ X 21 0 j = t)) (j + 1)) (H : Heap) (locs : List Loc) (hS : db_S Γ A s.heap L mm_ok (mm_cel Γ N L) X H locs) (ls : Array Slot) (hl : lv_has ls 4 [(0, .ref (L 0 0)), (1, .int t), (3, .int (nI j))]), W p l e (db_rm 2 42) s m args below meth c H locs 0 0 Q (F0 m 44 ls [.int b, .int acc]) := by
            intro b he H locs hS ls hl
            refine lv_iadd hx hb dX7_waiters_44 ?_
            refine lv_istore_n (lv' := [(2, .int (acc + b)), (0, .ref (L 0 0)), (1, .int t), (3, .int (nI j))]) hx hb dX7_waiters_45 rfl hl (by decide) rfl (fun ls hl => ?_)
            refine lv_iinc (v := (nI (j + 1))) (lv' := [(3, .int (nI (j + 1))), (2, .int (acc + b)), (0, .ref (L 0 0)), (1, .int t)]) hx hb dX7_waiters_46 hl (k := 3) rfl (nI_1 _) (by decide) rfl (fun ls hl => ?_)
            refine lv_goto (tgt := 4) hx hb dX7_waiters_49 (by decide) ?_
            exact ih4 (j + 1) (acc + b) (by omega) hj he (fun q => absurd q c17) _ _ hS _ (lv_sub hl [2, 3, 1, 0] rfl)
          refine lv_iload_n hx hb dX7_waiters_20 rfl (lv_at hl 2 rfl) ?_
          refine lv_aload_n hx hb dX7_waiters_21 rfl (lv_at hl 0 rfl) ?_
          refine lv_iload_n hx hb dX7_waiters_22 rfl (lv_at hl 3 rfl) ?_
          refine db_cV (As := [.int (nI j)]) (rest := [.int acc]) (st1 := [.int (mm_isP N X (nI j)), .int acc]) hC hS 0 0 (mm_k 0 rfl) rfl db_c7 (c_X7_isPending l Γ N L X hN (nI j) ) (cw_X7_isPending (Nat.le_of_ble_eq_true rfl) (Nat.le_of_ble_eq_true rfl)) wd_591 wd_593 ws_41 rfl hl.1 rfl (Nat.le_of_ble_eq_true rfl) dX7_waiters_23 ⟨Nat.le_of_ble_eq_true rfl, Nat.le_of_ble_eq_true rfl⟩ rfl (fun H locs hS => ?_)
          refine lv_if_eq (tgt := 43) hx hb dX7_waiters_26 (by decide) (fun c26 => ?_) (fun c26 => ?_)
          · refine lv_iconst (v := 0) hx hb dX7_waiters_43 (by decide) ?_
            exact K44 0 (by rw [db_cnt, ← hacc, if_neg (by simp [c26])]; simp) _ _ hS _ (lv_sub hl [0, 1, 3] rfl)
          · refine lv_aload_n hx hb dX7_waiters_29 rfl (lv_at hl 0 rfl) ?_
            refine db_get hx hb hts hown hK hS 0 0 (mm_k 0 rfl) rfl db_c7 21 (by decide) wd_462 rfl dX7_waiters_30 ?_
            refine lv_iload_n hx hb dX7_waiters_33 rfl (lv_at hl 3 rfl) ?_
            refine db_ild hx hb hK hS 21 0 (mm_k 21 rfl) rfl j rfl (Nat.lt_of_lt_of_le hj hN.2.1) (by decide) dX7_waiters_34 ?_
            refine lv_iload_n hx hb dX7_waiters_35 rfl (lv_at hl 1 rfl) ?_
            refine lv_icmp_ne (tgt := 43) hx hb dX7_waiters_36 (by decide) (fun c36 => ?_) (fun c36 => ?_)
            · refine lv_iconst (v := 0) hx hb dX7_waiters_43 (by decide) ?_
              exact K44 0 (by rw [db_cnt, ← hacc, if_neg (by simp [c36])]; simp) _ _ hS _ (lv_sub hl [0, 1, 3] rfl)
            · refine lv_iconst (v := 1) hx hb dX7_waiters_39 (by decide) ?_
              refine lv_goto (tgt := 44) hx hb dX7_waiters_40 (by decide) ?_
              exact K44 1 (by rw [db_cnt, ← hacc, if_pos (by simp [c26, c36])]) _ _ hS _ (lv_sub hl [0, 1, 3] rfl)
  exact K4 _ 0 0 (Nat.le_refl _) (Nat.zero_le _) rfl (fun _ => rfl) _ _ hS _ (lv_sub hl [2, 3, 1, 0] rfl)

set_option maxHeartbeats 4000000 in
set_option maxRecDepth 100000 in
theorem c_X7_miss (l : Launch) (Γ : db_G) (N : Nat → Nat) (L : Nat → Nat → Nat) (X : db_X) (hN : bb_N N) (i : Int32) (w : Int32) : db_C l Γ yX7_miss cX7_miss 3 (some .int) (db_rm 0 0) [.ref (L 0 0), .int i, .int w] L mm_ok (mm_cel Γ N L) X (some (.int (mm_missQ N X i w))) X := by
  have hn0 : N 0 < 2 ^ 31 := by have := hN.2.1; omega
  have hn1 : N 1 < 2 ^ 31 := by have := hN.2.2.1; omega
  have hn2 : N 2 < 2 ^ 31 := by have := hN.2.2.2.1; omega
  have hn3 : N 3 < 2 ^ 31 := by have := hN.2.2.2.2; omega
  refine db_introI (by decide +kernel) (Nat.le_of_ble_eq_true rfl) ?_
  intro p e s m args below meth c A Q ls hC hS hl hret
  have hC : db_Cx p s m args meth c Γ RX7 cX7_miss 3 (some .int) := hC
  obtain ⟨hx, hb, hml, hr, hlocks, hown, hts, hK⟩ := id hC
  have hl : lv_has ls 3 [(0, .ref (L 0 0)), (1, .int i), (2, .int w)] := hl
  have K20 : ∀ (h20 : mm_missQ N X i w = -1) (H : Heap) (locs : List Loc) (hS : db_S Γ A s.heap L mm_ok (mm_cel Γ N L) X H locs) (ls : Array Slot) (hl : lv_has ls 3 []), W p l e (db_rm 0 0) s m args below meth c H locs 0 0 Q (F0 m 20 ls []) := by
    intro  h20 H locs hS ls hl
    refine lv_iconst (v := -1) hx hb dX7_miss_20 (by decide) ?_
    exact hret _ _ _ _ _ _ hS (h20.symm) (rfl) dX7_miss_21
  refine lv_iload_n hx hb dX7_miss_0 rfl (lv_at hl 1 rfl) ?_
  refine lv_if_lt (tgt := 20) hx hb dX7_miss_1 (by decide) (fun c1 => ?_) (fun c1 => ?_)
  · exact K20  (by simp [mm_missQ, c1]) _ _ hS _ (lv_sub hl [] rfl)
  · refine lv_iload_n hx hb dX7_miss_4 rfl (lv_at hl 1 rfl) ?_
    refine lv_aload_n hx hb dX7_miss_5 rfl (lv_at hl 0 rfl) ?_
    refine db_get hx hb hts hown hK hS 0 0 (mm_k 0 rfl) rfl db_c7 3 (by decide) wd_444 rfl dX7_miss_6 ?_
    refine lv_icmp_ge (tgt := 20) hx hb dX7_miss_9 (by decide) (fun c9 => ?_) (fun c9 => ?_)
    · exact K20  (by simp [mm_missQ, c1, c9]) _ _ hS _ (lv_sub hl [] rfl)
    · refine lv_iload_n hx hb dX7_miss_12 rfl (lv_at hl 1 rfl) ?_
      refine lv_aload_n hx hb dX7_miss_13 rfl (lv_at hl 0 rfl) ?_
      refine db_get hx hb hts hown hK hS 0 0 (mm_k 0 rfl) rfl db_c7 30 (by decide) wd_471 rfl dX7_miss_14 ?_
      refine lv_icmp_lt (tgt := 22) hx hb dX7_miss_17 (by decide) (fun c17 => ?_) (fun c17 => ?_)
      · obtain ⟨j, hj, rfl⟩ := db_ix hn3 c1 c9
        refine lv_iload_n hx hb dX7_miss_22 rfl (lv_at hl 2 rfl) ?_
        refine lv_if_ne (tgt := 35) hx hb dX7_miss_23 (by decide) (fun c23 => ?_) (fun c23 => ?_)
        · refine lv_iload_n hx hb dX7_miss_35 rfl (lv_at hl 2 rfl) ?_
          refine lv_iconst (v := 1) hx hb dX7_miss_36 (by decide) ?_
          refine lv_icmp_ne (tgt := 49) hx hb dX7_miss_37 (by decide) (fun c37 => ?_) (fun c37 => ?_)
          · refine lv_iconst (v := -1) hx hb dX7_miss_49 (by decide) ?_
            exact hret _ _ _ _ _ _ hS (by simp [mm_missQ, c1, c9, c17, c23, c37, db_nIc hj hn3]) (rfl) dX7_miss_50
          · refine lv_aload_n hx hb dX7_miss_40 rfl (lv_at hl 0 rfl) ?_
            refine db_get hx hb hts hown hK hS 0 0 (mm_k 0 rfl) rfl db_c7 32 (by decide) wd_473 rfl dX7_miss_41 ?_
            refine lv_iload_n hx hb dX7_miss_44 rfl (lv_at hl 1 rfl) ?_
            refine db_ild hx hb hK hS 32 0 (mm_k 32 rfl) rfl j rfl (Nat.lt_of_lt_of_le hj hN.2.2.2.2) (by decide) dX7_miss_45 ?_
            refine lv_goto (tgt := 50) hx hb dX7_miss_46 (by decide) ?_
            exact hret _ _ _ _ _ _ hS (by simp [mm_missQ, c1, c9, c17, c23, c37, db_nIc hj hn3]) (rfl) dX7_miss_50
        · refine lv_aload_n hx hb dX7_miss_26 rfl (lv_at hl 0 rfl) ?_
          refine db_get hx hb hts hown hK hS 0 0 (mm_k 0 rfl) rfl db_c7 31 (by decide) wd_472 rfl dX7_miss_27 ?_
          refine lv_iload_n hx hb dX7_miss_30 rfl (lv_at hl 1 rfl) ?_
          refine db_ild hx hb hK hS 31 0 (mm_k 31 rfl) rfl j rfl (Nat.lt_of_lt_of_le hj hN.2.2.2.2) (by decide) dX7_miss_31 ?_
          refine lv_goto (tgt := 50) hx hb dX7_miss_32 (by decide) ?_
          exact hret _ _ _ _ _ _ hS (by simp [mm_missQ, c1, c9, c17, c23, db_nIc hj hn3]) (rfl) dX7_miss_50
      · exact K20  (by simp [mm_missQ, c1, c9, c17]) _ _ hS _ (lv_sub hl [] rfl)

set_option maxHeartbeats 4000000 in
set_option maxRecDepth 100000 in
theorem c_X7_sectionsOf (l : Launch) (Γ : db_G) (N : Nat → Nat) (L : Nat → Nat → Nat) (X : db_X) (hN : bb_N N) (t : Int32) (sz : Nat) (hI : mm_I N sz X) : db_C l Γ yX7_sectionsOf cX7_sectionsOf 4 (some .int) (db_rm 0 0) [.ref (L 0 0), .int t] L mm_ok (mm_cel Γ N L) X (some (.int (mm_secOf X sz t))) X := by
  have hn0 : N 0 < 2 ^ 31 := by have := hN.2.1; omega
  have hn1 : N 1 < 2 ^ 31 := by have := hN.2.2.1; omega
  have hn2 : N 2 < 2 ^ 31 := by have := hN.2.2.2.1; omega
  have hn3 : N 3 < 2 ^ 31 := by have := hN.2.2.2.2; omega
  refine db_introI (by decide +kernel) (Nat.le_of_ble_eq_true rfl) ?_
  intro p e s m args below meth c A Q ls hC hS hl hret
  have hC : db_Cx p s m args meth c Γ RX7 cX7_sectionsOf 4 (some .int) := hC
  obtain ⟨hx, hb, hml, hr, hlocks, hown, hts, hK⟩ := id hC
  have hl : lv_has ls 4 [(0, .ref (L 0 0)), (1, .int t)] := hl
  have hsz : sz < 2 ^ 31 := by have := hI.2.2.2.1; omega
  refine lv_iconst (v := 0) hx hb dX7_sectionsOf_0 (by decide) ?_
  refine lv_istore_n (lv' := [(2, .int 0), (0, .ref (L 0 0)), (1, .int t)]) hx hb dX7_sectionsOf_1 rfl hl (by decide) rfl (fun ls hl => ?_)
  refine lv_iconst (v := 0) hx hb dX7_sectionsOf_2 (by decide) ?_
  refine lv_istore_n (lv' := [(3, .int 0), (2, .int 0), (0, .ref (L 0 0)), (1, .int t)]) hx hb dX7_sectionsOf_3 rfl hl (by decide) rfl (fun ls hl => ?_)
  have K4 : ∀ (q : Nat) (j : Nat) (acc : Int32) (hq : sz + 1 - j ≤ q) (hj0 : j ≤ sz) (hacc : acc = db_cnt (fun s => decide (X 25 0 s = t)) j) (H : Heap) (locs : List Loc) (hS : db_S Γ A s.heap L mm_ok (mm_cel Γ N L) X H locs) (ls : Array Slot) (hl : lv_has ls 4 [(0, .ref (L 0 0)), (1, .int t), (2, .int acc), (3, .int (nI j))]), W p l e (db_rm 0 0) s m args below meth c H locs 0 0 Q (F0 m 4 ls []) := by
    intro q4
    induction q4 with
    | zero =>
      intro j acc hq4 hj0 hacc
      exact absurd hq4 (by omega)
    | succ q4 ih4 =>
      intro j acc hq4 hj0 hacc H locs hS ls hl
      refine lv_iload_n hx hb dX7_sectionsOf_4 rfl (lv_at hl 3 rfl) ?_
      refine lv_aload_n hx hb dX7_sectionsOf_5 rfl (lv_at hl 0 rfl) ?_
      refine db_get hx hb hts hown hK hS 0 0 (mm_k 0 rfl) rfl db_c7 24 (by decide) wd_465 rfl dX7_sectionsOf_6 ?_
      rw [show X 0 0 24 = nI sz from hI.2.2.1]
      refine lv_icmp_ge (tgt := 36) hx hb dX7_sectionsOf_9 (by decide) (fun c9 => ?_) (fun c9 => ?_)
      · have hj : j = sz := by
          rcases Nat.lt_or_ge j (sz) with q9 | q9
          · exact absurd c9 (nI_ge q9 hsz)
          · omega
        refine lv_iload_n hx hb dX7_sectionsOf_36 rfl (lv_at hl 2 rfl) ?_
        exact hret _ _ _ _ _ _ hS (by rw [hacc, hj]; rfl) (rfl) dX7_sectionsOf_37
      · have hj : j < sz := by
          rcases Nat.lt_or_ge j (sz) with q9 | q9
          · exact q9
          · exact absurd (nI_le q9 (by omega)) c9
        have K28 : ∀ (b : Int32) (he : acc + b = db_cnt (fun s => decide (X 25 0 s = t)) (j + 1)) (H : Heap) (locs : List Loc) (hS : db_S Γ A s.heap L mm_ok (mm_cel Γ N L) X H locs) (ls : Array Slot) (hl : lv_has ls 4 [(0, .ref (L 0 0)), (1, .int t), (3, .int (nI j))]), W p l e (db_rm 0 0) s m args below meth c H locs 0 0 Q (F0 m 28 ls [.int b, .int acc]) := by
          intro b he H locs hS ls hl
          refine lv_iadd hx hb dX7_sectionsOf_28 ?_
          refine lv_istore_n (lv' := [(2, .int (acc + b)), (0, .ref (L 0 0)), (1, .int t), (3, .int (nI j))]) hx hb dX7_sectionsOf_29 rfl hl (by decide) rfl (fun ls hl => ?_)
          refine lv_iinc (v := (nI (j + 1))) (lv' := [(3, .int (nI (j + 1))), (2, .int (acc + b)), (0, .ref (L 0 0)), (1, .int t)]) hx hb dX7_sectionsOf_30 hl (k := 3) rfl (nI_1 _) (by decide) rfl (fun ls hl => ?_)
          refine lv_goto (tgt := 4) hx hb dX7_sectionsOf_33 (by decide) ?_
          exact ih4 (j + 1) (acc + b) (by omega) hj he _ _ hS _ (lv_sub hl [2, 3, 1, 0] rfl)
        refine lv_iload_n hx hb dX7_sectionsOf_12 rfl (lv_at hl 2 rfl) ?_
        refine lv_aload_n hx hb dX7_sectionsOf_13 rfl (lv_at hl 0 rfl) ?_
        refine db_get hx hb hts hown hK hS 0 0 (mm_k 0 rfl) rfl db_c7 25 (by decide) wd_466 rfl dX7_sectionsOf_14 ?_
        refine lv_iload_n hx hb dX7_sectionsOf_17 rfl (lv_at hl 3 rfl) ?_
        refine db_ild hx hb hK hS 25 0 (mm_k 25 rfl) rfl j rfl (Nat.lt_of_lt_of_le (Nat.lt_of_lt_of_le hj hI.2.2.2.1) hN.2.2.2.1) (by decide) dX7_sectionsOf_18 ?_
        refine lv_iload_n hx hb dX7_sectionsOf_19 rfl (lv_at hl 1 rfl) ?_
        refine lv_icmp_ne (tgt := 27) hx hb dX7_sectionsOf_20 (by decide) (fun c20 => ?_) (fun c20 => ?_)
        · refine lv_iconst (v := 0) hx hb dX7_sectionsOf_27 (by decide) ?_
          exact K28 0 (by rw [db_cnt, ← hacc, if_neg (by simp [c20])]; simp) _ _ hS _ (lv_sub hl [0, 1, 3] rfl)
        · refine lv_iconst (v := 1) hx hb dX7_sectionsOf_23 (by decide) ?_
          refine lv_goto (tgt := 28) hx hb dX7_sectionsOf_24 (by decide) ?_
          exact K28 1 (by rw [db_cnt, ← hacc, if_pos (by simp [c20])]) _ _ hS _ (lv_sub hl [0, 1, 3] rfl)
  exact K4 _ 0 0 (Nat.le_refl _) (Nat.zero_le _) rfl _ _ hS _ (lv_sub hl [2, 3, 1, 0] rfl)

set_option maxHeartbeats 4000000 in
set_option maxRecDepth 100000 in
theorem c_X7_task (l : Launch) (Γ : db_G) (N : Nat → Nat) (L : Nat → Nat → Nat) (X : db_X) (hN : bb_N N) (t : Int32) (w : Int32) (sz : Nat) (hI : mm_I N sz X) : db_C l Γ yX7_task cX7_task 3 (some .int) (db_rm 1 23) [.ref (L 0 0), .int t, .int w] L mm_ok (mm_cel Γ N L) X (some (.int (mm_task N X sz t w))) X := by
  have hn0 : N 0 < 2 ^ 31 := by have := hN.2.1; omega
  have hn1 : N 1 < 2 ^ 31 := by have := hN.2.2.1; omega
  have hn2 : N 2 < 2 ^ 31 := by have := hN.2.2.2.1; omega
  have hn3 : N 3 < 2 ^ 31 := by have := hN.2.2.2.2; omega
  refine db_introI (by decide +kernel) (Nat.le_of_ble_eq_true rfl) ?_
  intro p e s m args below meth c A Q ls hC hS hl hret
  have hC : db_Cx p s m args meth c Γ RX7 cX7_task 3 (some .int) := hC
  obtain ⟨hx, hb, hml, hr, hlocks, hown, hts, hK⟩ := id hC
  have hl : lv_has ls 3 [(0, .ref (L 0 0)), (1, .int t), (2, .int w)] := hl
  refine lv_aload_n hx hb dX7_task_0 rfl (lv_at hl 0 rfl) ?_
  refine lv_iload_n hx hb dX7_task_1 rfl (lv_at hl 1 rfl) ?_
  refine db_cV (As := [.int t]) (rest := []) (st1 := [.int (mm_isLive N X t)]) hC hS 0 0 (mm_k 0 rfl) rfl db_c7 (c_X7_isLive l Γ N L X hN t ) (cw_X7_isLive (Nat.le_of_ble_eq_true rfl) (Nat.le_of_ble_eq_true rfl)) wd_559 wd_561 ws_34 rfl hl.1 rfl (Nat.le_of_ble_eq_true rfl) dX7_task_2 ⟨Nat.le_of_ble_eq_true rfl, Nat.le_of_ble_eq_true rfl⟩ rfl (fun H locs hS => ?_)
  refine lv_if_ne (tgt := 10) hx hb dX7_task_5 (by decide) (fun c5 => ?_) (fun c5 => ?_)
  · obtain ⟨j, hj, rfl⟩ := mm_isLive_ix hn0 c5
    refine lv_iload_n hx hb dX7_task_10 rfl (lv_at hl 2 rfl) ?_
    by_cases w11_0 : w = 0
    · refine lv_tableIn (tgt := 68) (off := 57) hx hb dX7_task_11 (by rw [w11_0]; decide) (by rw [w11_0]; decide) (by rw [w11_0]; decide) (by decide) ?_
      refine lv_aload_n hx hb dX7_task_68 rfl (lv_at hl 0 rfl) ?_
      refine db_get hx hb hts hown hK hS 0 0 (mm_k 0 rfl) rfl db_c7 7 (by decide) wd_448 rfl dX7_task_69 ?_
      refine lv_iload_n hx hb dX7_task_72 rfl (lv_at hl 1 rfl) ?_
      refine db_ild hx hb hK hS 7 0 (mm_k 7 rfl) rfl j rfl (Nat.lt_of_lt_of_le hj hN.2.1) (by decide) dX7_task_73 ?_
      exact hret _ _ _ _ _ _ hS (by rw [mm_task, if_neg c5, if_pos w11_0, db_nIc hj hn0]) (rfl) dX7_task_74
    by_cases w11_1 : w = 1
    · refine lv_tableIn (tgt := 75) (off := 64) hx hb dX7_task_11 (by rw [w11_1]; decide) (by rw [w11_1]; decide) (by rw [w11_1]; decide) (by decide) ?_
      refine lv_aload_n hx hb dX7_task_75 rfl (lv_at hl 0 rfl) ?_
      refine db_get hx hb hts hown hK hS 0 0 (mm_k 0 rfl) rfl db_c7 8 (by decide) wd_449 rfl dX7_task_76 ?_
      refine lv_iload_n hx hb dX7_task_79 rfl (lv_at hl 1 rfl) ?_
      refine db_ild hx hb hK hS 8 0 (mm_k 8 rfl) rfl j rfl (Nat.lt_of_lt_of_le hj hN.2.1) (by decide) dX7_task_80 ?_
      exact hret _ _ _ _ _ _ hS (by rw [mm_task, if_neg c5, if_neg w11_0, if_pos w11_1, db_nIc hj hn0]) (rfl) dX7_task_81
    by_cases w11_2 : w = 2
    · refine lv_tableIn (tgt := 82) (off := 71) hx hb dX7_task_11 (by rw [w11_2]; decide) (by rw [w11_2]; decide) (by rw [w11_2]; decide) (by decide) ?_
      refine lv_aload_n hx hb dX7_task_82 rfl (lv_at hl 0 rfl) ?_
      refine db_get hx hb hts hown hK hS 0 0 (mm_k 0 rfl) rfl db_c7 9 (by decide) wd_450 rfl dX7_task_83 ?_
      refine lv_iload_n hx hb dX7_task_86 rfl (lv_at hl 1 rfl) ?_
      refine db_ild hx hb hK hS 9 0 (mm_k 9 rfl) rfl j rfl (Nat.lt_of_lt_of_le hj hN.2.1) (by decide) dX7_task_87 ?_
      exact hret _ _ _ _ _ _ hS (by rw [mm_task, if_neg c5, if_neg w11_0, if_neg w11_1, if_pos w11_2, db_nIc hj hn0]) (rfl) dX7_task_88
    by_cases w11_3 : w = 3
    · refine lv_tableIn (tgt := 89) (off := 78) hx hb dX7_task_11 (by rw [w11_3]; decide) (by rw [w11_3]; decide) (by rw [w11_3]; decide) (by decide) ?_
      refine lv_aload_n hx hb dX7_task_89 rfl (lv_at hl 0 rfl) ?_
      refine db_get hx hb hts hown hK hS 0 0 (mm_k 0 rfl) rfl db_c7 10 (by decide) wd_451 rfl dX7_task_90 ?_
      refine lv_iload_n hx hb dX7_task_93 rfl (lv_at hl 1 rfl) ?_
      refine db_ild hx hb hK hS 10 0 (mm_k 10 rfl) rfl j rfl (Nat.lt_of_lt_of_le hj hN.2.1) (by decide) dX7_task_94 ?_
      exact hret _ _ _ _ _ _ hS (by rw [mm_task, if_neg c5, if_neg w11_0, if_neg w11_1, if_neg w11_2, if_pos w11_3, db_nIc hj hn0]) (rfl) dX7_task_95
    by_cases w11_4 : w = 4
    · refine lv_tableIn (tgt := 96) (off := 85) hx hb dX7_task_11 (by rw [w11_4]; decide) (by rw [w11_4]; decide) (by rw [w11_4]; decide) (by decide) ?_
      refine lv_aload_n hx hb dX7_task_96 rfl (lv_at hl 0 rfl) ?_
      refine lv_iload_n hx hb dX7_task_97 rfl (lv_at hl 1 rfl) ?_
      refine db_cV (As := [.int (nI j)]) (rest := []) (st1 := [.int (mm_secOf X sz (nI j))]) hC hS 0 0 (mm_k 0 rfl) rfl db_c7 (c_X7_sectionsOf l Γ N L X hN (nI j) sz hI) (cw_X7_sectionsOf (Nat.le_of_ble_eq_true rfl) (Nat.le_of_ble_eq_true rfl)) wd_679 wd_681 ws_50 rfl hl.1 rfl (Nat.le_of_ble_eq_true rfl) dX7_task_98 ⟨Nat.le_of_ble_eq_true rfl, Nat.le_of_ble_eq_true rfl⟩ rfl (fun H locs hS => ?_)
      exact hret _ _ _ _ _ _ hS (by rw [mm_task, if_neg c5, if_neg w11_0, if_neg w11_1, if_neg w11_2, if_neg w11_3, if_pos w11_4]) (rfl) dX7_task_101
    by_cases w11_5 : w = 5
    · refine lv_tableIn (tgt := 102) (off := 91) hx hb dX7_task_11 (by rw [w11_5]; decide) (by rw [w11_5]; decide) (by rw [w11_5]; decide) (by decide) ?_
      refine lv_aload_n hx hb dX7_task_102 rfl (lv_at hl 0 rfl) ?_
      refine db_get hx hb hts hown hK hS 0 0 (mm_k 0 rfl) rfl db_c7 11 (by decide) wd_452 rfl dX7_task_103 ?_
      refine lv_iload_n hx hb dX7_task_106 rfl (lv_at hl 1 rfl) ?_
      refine db_ild hx hb hK hS 11 0 (mm_k 11 rfl) rfl j rfl (Nat.lt_of_lt_of_le hj hN.2.1) (by decide) dX7_task_107 ?_
      exact hret _ _ _ _ _ _ hS (by rw [mm_task, if_neg c5, if_neg w11_0, if_neg w11_1, if_neg w11_2, if_neg w11_3, if_neg w11_4, if_pos w11_5, db_nIc hj hn0]) (rfl) dX7_task_108
    by_cases w11_6 : w = 6
    · refine lv_tableIn (tgt := 109) (off := 98) hx hb dX7_task_11 (by rw [w11_6]; decide) (by rw [w11_6]; decide) (by rw [w11_6]; decide) (by decide) ?_
      refine lv_aload_n hx hb dX7_task_109 rfl (lv_at hl 0 rfl) ?_
      refine db_get hx hb hts hown hK hS 0 0 (mm_k 0 rfl) rfl db_c7 12 (by decide) wd_453 rfl dX7_task_110 ?_
      refine lv_iload_n hx hb dX7_task_113 rfl (lv_at hl 1 rfl) ?_
      refine db_ild hx hb hK hS 12 0 (mm_k 12 rfl) rfl j rfl (Nat.lt_of_lt_of_le hj hN.2.1) (by decide) dX7_task_114 ?_
      exact hret _ _ _ _ _ _ hS (by rw [mm_task, if_neg c5, if_neg w11_0, if_neg w11_1, if_neg w11_2, if_neg w11_3, if_neg w11_4, if_neg w11_5, if_pos w11_6, db_nIc hj hn0]) (rfl) dX7_task_115
    by_cases w11_7 : w = 7
    · refine lv_tableIn (tgt := 116) (off := 105) hx hb dX7_task_11 (by rw [w11_7]; decide) (by rw [w11_7]; decide) (by rw [w11_7]; decide) (by decide) ?_
      refine lv_aload_n hx hb dX7_task_116 rfl (lv_at hl 0 rfl) ?_
      refine db_get hx hb hts hown hK hS 0 0 (mm_k 0 rfl) rfl db_c7 13 (by decide) wd_454 rfl dX7_task_117 ?_
      refine lv_iload_n hx hb dX7_task_120 rfl (lv_at hl 1 rfl) ?_
      refine db_ild hx hb hK hS 13 0 (mm_k 13 rfl) rfl j rfl (Nat.lt_of_lt_of_le hj hN.2.1) (by decide) dX7_task_121 ?_
      exact hret _ _ _ _ _ _ hS (by rw [mm_task, if_neg c5, if_neg w11_0, if_neg w11_1, if_neg w11_2, if_neg w11_3, if_neg w11_4, if_neg w11_5, if_neg w11_6, if_pos w11_7, db_nIc hj hn0]) (rfl) dX7_task_122
    by_cases w11_8 : w = 8
    · refine lv_tableIn (tgt := 123) (off := 112) hx hb dX7_task_11 (by rw [w11_8]; decide) (by rw [w11_8]; decide) (by rw [w11_8]; decide) (by decide) ?_
      refine lv_aload_n hx hb dX7_task_123 rfl (lv_at hl 0 rfl) ?_
      refine db_get hx hb hts hown hK hS 0 0 (mm_k 0 rfl) rfl db_c7 14 (by decide) wd_455 rfl dX7_task_124 ?_
      refine lv_iload_n hx hb dX7_task_127 rfl (lv_at hl 1 rfl) ?_
      refine db_ild hx hb hK hS 14 0 (mm_k 14 rfl) rfl j rfl (Nat.lt_of_lt_of_le hj hN.2.1) (by decide) dX7_task_128 ?_
      exact hret _ _ _ _ _ _ hS (by rw [mm_task, if_neg c5, if_neg w11_0, if_neg w11_1, if_neg w11_2, if_neg w11_3, if_neg w11_4, if_neg w11_5, if_neg w11_6, if_neg w11_7, if_pos w11_8, db_nIc hj hn0]) (rfl) dX7_task_129
    by_cases w11_9 : w = 9
    · refine lv_tableIn (tgt := 130) (off := 119) hx hb dX7_task_11 (by rw [w11_9]; decide) (by rw [w11_9]; decide) (by rw [w11_9]; decide) (by decide) ?_
      refine lv_aload_n hx hb dX7_task_130 rfl (lv_at hl 0 rfl) ?_
      refine db_get hx hb hts hown hK hS 0 0 (mm_k 0 rfl) rfl db_c7 15 (by decide) wd_456 rfl dX7_task_131 ?_
      refine lv_iload_n hx hb dX7_task_134 rfl (lv_at hl 1 rfl) ?_
      refine db_ild hx hb hK hS 15 0 (mm_k 15 rfl) rfl j rfl (Nat.lt_of_lt_of_le hj hN.2.1) (by decide) dX7_task_135 ?_
      exact hret _ _ _ _ _ _ hS (by rw [mm_task, if_neg c5, if_neg w11_0, if_neg w11_1, if_neg w11_2, if_neg w11_3, if_neg w11_4, if_neg w11_5, if_neg w11_6, if_neg w11_7, if_neg w11_8, if_pos w11_9, db_nIc hj hn0]) (rfl) dX7_task_136
    by_cases w11_10 : w = 10
    · refine lv_tableIn (tgt := 137) (off := 126) hx hb dX7_task_11 (by rw [w11_10]; decide) (by rw [w11_10]; decide) (by rw [w11_10]; decide) (by decide) ?_
      refine lv_aload_n hx hb dX7_task_137 rfl (lv_at hl 0 rfl) ?_
      refine db_get hx hb hts hown hK hS 0 0 (mm_k 0 rfl) rfl db_c7 16 (by decide) wd_457 rfl dX7_task_138 ?_
      refine lv_iload_n hx hb dX7_task_141 rfl (lv_at hl 1 rfl) ?_
      refine db_ild hx hb hK hS 16 0 (mm_k 16 rfl) rfl j rfl (Nat.lt_of_lt_of_le hj hN.2.1) (by decide) dX7_task_142 ?_
      exact hret _ _ _ _ _ _ hS (by rw [mm_task, if_neg c5, if_neg w11_0, if_neg w11_1, if_neg w11_2, if_neg w11_3, if_neg w11_4, if_neg w11_5, if_neg w11_6, if_neg w11_7, if_neg w11_8, if_neg w11_9, if_pos w11_10, db_nIc hj hn0]) (rfl) dX7_task_143
    refine lv_tableOut (tgt := 144) hx hb dX7_task_11 (db_out11 w11_0 w11_1 w11_2 w11_3 w11_4 w11_5 w11_6 w11_7 w11_8 w11_9 w11_10) (by decide) ?_
    refine lv_iconst (v := -1) hx hb dX7_task_144 (by decide) ?_
    exact hret _ _ _ _ _ _ hS (by rw [mm_task, if_neg c5, if_neg w11_0, if_neg w11_1, if_neg w11_2, if_neg w11_3, if_neg w11_4, if_neg w11_5, if_neg w11_6, if_neg w11_7, if_neg w11_8, if_neg w11_9, if_neg w11_10]) (rfl) dX7_task_145
  · refine lv_iconst (v := -1) hx hb dX7_task_8 (by decide) ?_
    exact hret _ _ _ _ _ _ hS (by rw [mm_task, if_pos c5]) (rfl) dX7_task_9

set_option maxHeartbeats 4000000 in
set_option maxRecDepth 100000 in
theorem c_X7_count (l : Launch) (Γ : db_G) (N : Nat → Nat) (L : Nat → Nat → Nat) (X : db_X) (hN : bb_N N) (w : Int32) : db_C l Γ yX7_count cX7_count 4 (some .int) (db_rm 2 42) [.ref (L 0 0), .int w] L mm_ok (mm_cel Γ N L) X (some (.int (mm_count N X w))) X := by
  have hn0 : N 0 < 2 ^ 31 := by have := hN.2.1; omega
  have hn1 : N 1 < 2 ^ 31 := by have := hN.2.2.1; omega
  have hn2 : N 2 < 2 ^ 31 := by have := hN.2.2.2.1; omega
  have hn3 : N 3 < 2 ^ 31 := by have := hN.2.2.2.2; omega
  refine db_introI (by decide +kernel) (Nat.le_of_ble_eq_true rfl) ?_
  intro p e s m args below meth c A Q ls hC hS hl hret
  have hC : db_Cx p s m args meth c Γ RX7 cX7_count 4 (some .int) := hC
  obtain ⟨hx, hb, hml, hr, hlocks, hown, hts, hK⟩ := id hC
  have hl : lv_has ls 4 [(0, .ref (L 0 0)), (1, .int w)] := hl
  refine lv_iconst (v := 0) hx hb dX7_count_0 (by decide) ?_
  refine lv_istore_n (lv' := [(2, .int 0), (0, .ref (L 0 0)), (1, .int w)]) hx hb dX7_count_1 rfl hl (by decide) rfl (fun ls hl => ?_)
  refine lv_iload_n hx hb dX7_count_2 rfl (lv_at hl 2 rfl) ?_
  by_cases w3_0 : w = 0
  · refine lv_tableIn (tgt := 44) (off := 41) hx hb dX7_count_3 (by rw [w3_0]; decide) (by rw [w3_0]; decide) (by rw [w3_0]; decide) (by decide) ?_
    refine lv_aload_n hx hb dX7_count_44 rfl (lv_at hl 1 rfl) ?_
    refine db_get hx hb hts hown hK hS 0 0 (mm_k 0 rfl) rfl db_c7 5 (by decide) wd_446 rfl dX7_count_45 ?_
    exact hret _ _ _ _ _ _ hS (by rw [mm_count, if_pos w3_0]) (rfl) dX7_count_48
  by_cases w3_1 : w = 1
  · refine lv_tableIn (tgt := 49) (off := 46) hx hb dX7_count_3 (by rw [w3_1]; decide) (by rw [w3_1]; decide) (by rw [w3_1]; decide) (by decide) ?_
    refine lv_iconst (v := 0) hx hb dX7_count_49 (by decide) ?_
    refine lv_istore_n (lv' := [(3, .int 0), (2, .int 0), (0, .ref (L 0 0)), (1, .int w)]) hx hb dX7_count_50 rfl hl (by decide) rfl (fun ls hl => ?_)
    have K51 : ∀ (q : Nat) (j : Nat) (acc : Int32) (hq : N 0 + 1 - j ≤ q) (hj0 : j ≤ N 0) (hacc : acc = db_cnt (fun j => decide (¬ X 6 0 j = 0)) j) (H : Heap) (locs : List Loc) (hS : db_S Γ A s.heap L mm_ok (mm_cel Γ N L) X H locs) (ls : Array Slot) (hl : lv_has ls 4 [(0, .ref (L 0 0)), (1, .int w), (2, .int acc), (3, .int (nI j))]), W p l e (db_rm 2 42) s m args below meth c H locs 0 0 Q (F0 m 51 ls []) := by
      intro q51
      induction q51 with
      | zero =>
        intro j acc hq51 hj0 hacc
        exact absurd hq51 (by omega)
      | succ q51 ih51 =>
        intro j acc hq51 hj0 hacc H locs hS ls hl
        refine lv_iload_n hx hb dX7_count_51 rfl (lv_at hl 3 rfl) ?_
        refine lv_aload_n hx hb dX7_count_52 rfl (lv_at hl 0 rfl) ?_
        refine db_get hx hb hts hown hK hS 0 0 (mm_k 0 rfl) rfl db_c7 0 (by decide) wd_441 rfl dX7_count_53 ?_
        refine lv_icmp_ge (tgt := 82) hx hb dX7_count_56 (by decide) (fun c56 => ?_) (fun c56 => ?_)
        · have hj : j = N 0 := by
            rcases Nat.lt_or_ge j (N 0) with q9 | q9
            · exact absurd c56 (nI_ge q9 hn0)
            · omega
          refine lv_iload_n hx hb dX7_count_82 rfl (lv_at hl 2 rfl) ?_
          exact hret _ _ _ _ _ _ hS (by rw [mm_count, if_neg w3_0, if_pos w3_1, hacc, hj]) (rfl) dX7_count_83
        · have hj : j < N 0 := by
            rcases Nat.lt_or_ge j (N 0) with q9 | q9
            · exact q9
            · exact absurd (nI_le q9 (by omega)) c56
          have K74 : ∀ (b : Int32) (he : acc + b = db_cnt (fun j => decide (¬ X 6 0 j = 0)) (j + 1)) (H : Heap) (locs : List Loc) (hS : db_S Γ A s.heap L mm_ok (mm_cel Γ N L) X H locs) (ls : Array Slot) (hl : lv_has ls 4 [(0, .ref (L 0 0)), (1, .int w), (3, .int (nI j))]), W p l e (db_rm 2 42) s m args below meth c H locs 0 0 Q (F0 m 74 ls [.int b, .int acc]) := by
            intro b he H locs hS ls hl
            refine lv_iadd hx hb dX7_count_74 ?_
            refine lv_istore_n (lv' := [(2, .int (acc + b)), (0, .ref (L 0 0)), (1, .int w), (3, .int (nI j))]) hx hb dX7_count_75 rfl hl (by decide) rfl (fun ls hl => ?_)
            refine lv_iinc (v := (nI (j + 1))) (lv' := [(3, .int (nI (j + 1))), (2, .int (acc + b)), (0, .ref (L 0 0)), (1, .int w)]) hx hb dX7_count_76 hl (k := 3) rfl (nI_1 _) (by decide) rfl (fun ls hl => ?_)
            refine lv_goto (tgt := 51) hx hb dX7_count_79 (by decide) ?_
            exact ih51 (j + 1) (acc + b) (by omega) hj he _ _ hS _ (lv_sub hl [2, 3, 1, 0] rfl)
          refine lv_iload_n hx hb dX7_count_59 rfl (lv_at hl 2 rfl) ?_
          refine lv_aload_n hx hb dX7_count_60 rfl (lv_at hl 0 rfl) ?_
          refine db_get hx hb hts hown hK hS 0 0 (mm_k 0 rfl) rfl db_c7 6 (by decide) wd_447 rfl dX7_count_61 ?_
          refine lv_iload_n hx hb dX7_count_64 rfl (lv_at hl 3 rfl) ?_
          refine db_zld hx hb hK hS 6 0 (mm_k 6 rfl) rfl j rfl (Nat.lt_of_lt_of_le hj hN.2.1) (by decide) dX7_count_65 ?_
          refine lv_if_eq (tgt := 73) hx hb dX7_count_66 (by decide) (fun c66 => ?_) (fun c66 => ?_)
          · refine lv_iconst (v := 0) hx hb dX7_count_73 (by decide) ?_
            exact K74 0 (by rw [db_cnt, ← hacc, if_neg (by simp [c66])]; simp) _ _ hS _ (lv_sub hl [0, 1, 3] rfl)
          · refine lv_iconst (v := 1) hx hb dX7_count_69 (by decide) ?_
            refine lv_goto (tgt := 74) hx hb dX7_count_70 (by decide) ?_
            exact K74 1 (by rw [db_cnt, ← hacc, if_pos (by simp [c66])]) _ _ hS _ (lv_sub hl [0, 1, 3] rfl)
    exact K51 _ 0 0 (Nat.le_refl _) (Nat.zero_le _) rfl _ _ hS _ (lv_sub hl [2, 3, 1, 0] rfl)
  by_cases w3_2 : w = 2
  · refine lv_tableIn (tgt := 84) (off := 81) hx hb dX7_count_3 (by rw [w3_2]; decide) (by rw [w3_2]; decide) (by rw [w3_2]; decide) (by decide) ?_
    refine lv_iconst (v := 0) hx hb dX7_count_84 (by decide) ?_
    refine lv_istore_n (lv' := [(3, .int 0), (2, .int 0), (0, .ref (L 0 0)), (1, .int w)]) hx hb dX7_count_85 rfl hl (by decide) rfl (fun ls hl => ?_)
    have K86 : ∀ (q : Nat) (j : Nat) (acc : Int32) (hq : N 0 + 1 - j ≤ q) (hj0 : j ≤ N 0) (hacc : acc = db_cnt (fun j => decide (¬ mm_isP N X (nI j) = 0)) j) (H : Heap) (locs : List Loc) (hS : db_S Γ A s.heap L mm_ok (mm_cel Γ N L) X H locs) (ls : Array Slot) (hl : lv_has ls 4 [(0, .ref (L 0 0)), (1, .int w), (2, .int acc), (3, .int (nI j))]), W p l e (db_rm 2 42) s m args below meth c H locs 0 0 Q (F0 m 86 ls []) := by
      intro q86
      induction q86 with
      | zero =>
        intro j acc hq86 hj0 hacc
        exact absurd hq86 (by omega)
      | succ q86 ih86 =>
        intro j acc hq86 hj0 hacc H locs hS ls hl
        refine lv_iload_n hx hb dX7_count_86 rfl (lv_at hl 3 rfl) ?_
        refine lv_aload_n hx hb dX7_count_87 rfl (lv_at hl 0 rfl) ?_
        refine db_get hx hb hts hown hK hS 0 0 (mm_k 0 rfl) rfl db_c7 0 (by decide) wd_441 rfl dX7_count_88 ?_
        refine lv_icmp_ge (tgt := 116) hx hb dX7_count_91 (by decide) (fun c91 => ?_) (fun c91 => ?_)
        · have hj : j = N 0 := by
            rcases Nat.lt_or_ge j (N 0) with q9 | q9
            · exact absurd c91 (nI_ge q9 hn0)
            · omega
          refine lv_iload_n hx hb dX7_count_116 rfl (lv_at hl 2 rfl) ?_
          exact hret _ _ _ _ _ _ hS (by rw [mm_count, if_neg w3_0, if_neg w3_1, if_pos w3_2, hacc, hj]) (rfl) dX7_count_117
        · have hj : j < N 0 := by
            rcases Nat.lt_or_ge j (N 0) with q9 | q9
            · exact q9
            · exact absurd (nI_le q9 (by omega)) c91
          have K108 : ∀ (b : Int32) (he : acc + b = db_cnt (fun j => decide (¬ mm_isP N X (nI j) = 0)) (j + 1)) (H : Heap) (locs : List Loc) (hS : db_S Γ A s.heap L mm_ok (mm_cel Γ N L) X H locs) (ls : Array Slot) (hl : lv_has ls 4 [(0, .ref (L 0 0)), (1, .int w), (3, .int (nI j))]), W p l e (db_rm 2 42) s m args below meth c H locs 0 0 Q (F0 m 108 ls [.int b, .int acc]) := by
            intro b he H locs hS ls hl
            refine lv_iadd hx hb dX7_count_108 ?_
            refine lv_istore_n (lv' := [(2, .int (acc + b)), (0, .ref (L 0 0)), (1, .int w), (3, .int (nI j))]) hx hb dX7_count_109 rfl hl (by decide) rfl (fun ls hl => ?_)
            refine lv_iinc (v := (nI (j + 1))) (lv' := [(3, .int (nI (j + 1))), (2, .int (acc + b)), (0, .ref (L 0 0)), (1, .int w)]) hx hb dX7_count_110 hl (k := 3) rfl (nI_1 _) (by decide) rfl (fun ls hl => ?_)
            refine lv_goto (tgt := 86) hx hb dX7_count_113 (by decide) ?_
            exact ih86 (j + 1) (acc + b) (by omega) hj he _ _ hS _ (lv_sub hl [2, 3, 1, 0] rfl)
          refine lv_iload_n hx hb dX7_count_94 rfl (lv_at hl 2 rfl) ?_
          refine lv_aload_n hx hb dX7_count_95 rfl (lv_at hl 0 rfl) ?_
          refine lv_iload_n hx hb dX7_count_96 rfl (lv_at hl 3 rfl) ?_
          refine db_cV (As := [.int (nI j)]) (rest := [.int acc]) (st1 := [.int (mm_isP N X (nI j)), .int acc]) hC hS 0 0 (mm_k 0 rfl) rfl db_c7 (c_X7_isPending l Γ N L X hN (nI j) ) (cw_X7_isPending (Nat.le_of_ble_eq_true rfl) (Nat.le_of_ble_eq_true rfl)) wd_591 wd_593 ws_41 rfl hl.1 rfl (Nat.le_of_ble_eq_true rfl) dX7_count_97 ⟨Nat.le_of_ble_eq_true rfl, Nat.le_of_ble_eq_true rfl⟩ rfl (fun H locs hS => ?_)
          refine lv_if_eq (tgt := 107) hx hb dX7_count_100 (by decide) (fun c100 => ?_) (fun c100 => ?_)
          · refine lv_iconst (v := 0) hx hb dX7_count_107 (by decide) ?_
            exact K108 0 (by rw [db_cnt, ← hacc, if_neg (by simp [c100])]; simp) _ _ hS _ (lv_sub hl [0, 1, 3] rfl)
          · refine lv_iconst (v := 1) hx hb dX7_count_103 (by decide) ?_
            refine lv_goto (tgt := 108) hx hb dX7_count_104 (by decide) ?_
            exact K108 1 (by rw [db_cnt, ← hacc, if_pos (by simp [c100])]) _ _ hS _ (lv_sub hl [0, 1, 3] rfl)
    exact K86 _ 0 0 (Nat.le_refl _) (Nat.zero_le _) rfl _ _ hS _ (lv_sub hl [2, 3, 1, 0] rfl)
  by_cases w3_3 : w = 3
  · refine lv_tableIn (tgt := 118) (off := 115) hx hb dX7_count_3 (by rw [w3_3]; decide) (by rw [w3_3]; decide) (by rw [w3_3]; decide) (by decide) ?_
    refine lv_aload_n hx hb dX7_count_118 rfl (lv_at hl 1 rfl) ?_
    refine db_get hx hb hts hown hK hS 0 0 (mm_k 0 rfl) rfl db_c7 24 (by decide) wd_465 rfl dX7_count_119 ?_
    exact hret _ _ _ _ _ _ hS (by rw [mm_count, if_neg w3_0, if_neg w3_1, if_neg w3_2, if_pos w3_3]) (rfl) dX7_count_122
  by_cases w3_4 : w = 4
  · refine lv_tableIn (tgt := 123) (off := 120) hx hb dX7_count_3 (by rw [w3_4]; decide) (by rw [w3_4]; decide) (by rw [w3_4]; decide) (by decide) ?_
    refine lv_iconst (v := 0) hx hb dX7_count_123 (by decide) ?_
    refine lv_istore_n (lv' := [(3, .int 0), (2, .int 0), (0, .ref (L 0 0)), (1, .int w)]) hx hb dX7_count_124 rfl hl (by decide) rfl (fun ls hl => ?_)
    have K125 : ∀ (q : Nat) (j : Nat) (acc : Int32) (hq : N 1 + 1 - j ≤ q) (hj0 : j ≤ N 1) (hacc : acc = db_cnt (fun j => decide (¬ X 23 0 j = -1)) j) (H : Heap) (locs : List Loc) (hS : db_S Γ A s.heap L mm_ok (mm_cel Γ N L) X H locs) (ls : Array Slot) (hl : lv_has ls 4 [(0, .ref (L 0 0)), (1, .int w), (2, .int acc), (3, .int (nI j))]), W p l e (db_rm 2 42) s m args below meth c H locs 0 0 Q (F0 m 125 ls []) := by
      intro q125
      induction q125 with
      | zero =>
        intro j acc hq125 hj0 hacc
        exact absurd hq125 (by omega)
      | succ q125 ih125 =>
        intro j acc hq125 hj0 hacc H locs hS ls hl
        refine lv_iload_n hx hb dX7_count_125 rfl (lv_at hl 3 rfl) ?_
        refine lv_aload_n hx hb dX7_count_126 rfl (lv_at hl 0 rfl) ?_
        refine db_get hx hb hts hown hK hS 0 0 (mm_k 0 rfl) rfl db_c7 1 (by decide) wd_442 rfl dX7_count_127 ?_
        refine lv_icmp_ge (tgt := 157) hx hb dX7_count_130 (by decide) (fun c130 => ?_) (fun c130 => ?_)
        · have hj : j = N 1 := by
            rcases Nat.lt_or_ge j (N 1) with q9 | q9
            · exact absurd c130 (nI_ge q9 hn1)
            · omega
          refine lv_iload_n hx hb dX7_count_157 rfl (lv_at hl 2 rfl) ?_
          exact hret _ _ _ _ _ _ hS (by rw [mm_count, if_neg w3_0, if_neg w3_1, if_neg w3_2, if_neg w3_3, if_pos w3_4, hacc, hj]) (rfl) dX7_count_158
        · have hj : j < N 1 := by
            rcases Nat.lt_or_ge j (N 1) with q9 | q9
            · exact q9
            · exact absurd (nI_le q9 (by omega)) c130
          have K149 : ∀ (b : Int32) (he : acc + b = db_cnt (fun j => decide (¬ X 23 0 j = -1)) (j + 1)) (H : Heap) (locs : List Loc) (hS : db_S Γ A s.heap L mm_ok (mm_cel Γ N L) X H locs) (ls : Array Slot) (hl : lv_has ls 4 [(0, .ref (L 0 0)), (1, .int w), (3, .int (nI j))]), W p l e (db_rm 2 42) s m args below meth c H locs 0 0 Q (F0 m 149 ls [.int b, .int acc]) := by
            intro b he H locs hS ls hl
            refine lv_iadd hx hb dX7_count_149 ?_
            refine lv_istore_n (lv' := [(2, .int (acc + b)), (0, .ref (L 0 0)), (1, .int w), (3, .int (nI j))]) hx hb dX7_count_150 rfl hl (by decide) rfl (fun ls hl => ?_)
            refine lv_iinc (v := (nI (j + 1))) (lv' := [(3, .int (nI (j + 1))), (2, .int (acc + b)), (0, .ref (L 0 0)), (1, .int w)]) hx hb dX7_count_151 hl (k := 3) rfl (nI_1 _) (by decide) rfl (fun ls hl => ?_)
            refine lv_goto (tgt := 125) hx hb dX7_count_154 (by decide) ?_
            exact ih125 (j + 1) (acc + b) (by omega) hj he _ _ hS _ (lv_sub hl [2, 3, 1, 0] rfl)
          refine lv_iload_n hx hb dX7_count_133 rfl (lv_at hl 2 rfl) ?_
          refine lv_aload_n hx hb dX7_count_134 rfl (lv_at hl 0 rfl) ?_
          refine db_get hx hb hts hown hK hS 0 0 (mm_k 0 rfl) rfl db_c7 23 (by decide) wd_464 rfl dX7_count_135 ?_
          refine lv_iload_n hx hb dX7_count_138 rfl (lv_at hl 3 rfl) ?_
          refine db_ild hx hb hK hS 23 0 (mm_k 23 rfl) rfl j rfl (Nat.lt_of_lt_of_le hj hN.2.2.1) (by decide) dX7_count_139 ?_
          refine lv_iconst (v := -1) hx hb dX7_count_140 (by decide) ?_
          refine lv_icmp_eq (tgt := 148) hx hb dX7_count_141 (by decide) (fun c141 => ?_) (fun c141 => ?_)
          · refine lv_iconst (v := 0) hx hb dX7_count_148 (by decide) ?_
            exact K149 0 (by rw [db_cnt, ← hacc, if_neg (by simp [c141])]; simp) _ _ hS _ (lv_sub hl [0, 1, 3] rfl)
          · refine lv_iconst (v := 1) hx hb dX7_count_144 (by decide) ?_
            refine lv_goto (tgt := 149) hx hb dX7_count_145 (by decide) ?_
            exact K149 1 (by rw [db_cnt, ← hacc, if_pos (by simp [c141])]) _ _ hS _ (lv_sub hl [0, 1, 3] rfl)
    exact K125 _ 0 0 (Nat.le_refl _) (Nat.zero_le _) rfl _ _ hS _ (lv_sub hl [2, 3, 1, 0] rfl)
  by_cases w3_5 : w = 5
  · refine lv_tableIn (tgt := 159) (off := 156) hx hb dX7_count_3 (by rw [w3_5]; decide) (by rw [w3_5]; decide) (by rw [w3_5]; decide) (by decide) ?_
    refine lv_aload_n hx hb dX7_count_159 rfl (lv_at hl 1 rfl) ?_
    refine db_get hx hb hts hown hK hS 0 0 (mm_k 0 rfl) rfl db_c7 35 (by decide) wd_476 rfl dX7_count_160 ?_
    exact hret _ _ _ _ _ _ hS (by rw [mm_count, if_neg w3_0, if_neg w3_1, if_neg w3_2, if_neg w3_3, if_neg w3_4, if_pos w3_5]) (rfl) dX7_count_163
  by_cases w3_6 : w = 6
  · refine lv_tableIn (tgt := 164) (off := 161) hx hb dX7_count_3 (by rw [w3_6]; decide) (by rw [w3_6]; decide) (by rw [w3_6]; decide) (by decide) ?_
    refine lv_aload_n hx hb dX7_count_164 rfl (lv_at hl 1 rfl) ?_
    refine db_get hx hb hts hown hK hS 0 0 (mm_k 0 rfl) rfl db_c7 4 (by decide) wd_445 rfl dX7_count_165 ?_
    exact hret _ _ _ _ _ _ hS (by rw [mm_count, if_neg w3_0, if_neg w3_1, if_neg w3_2, if_neg w3_3, if_neg w3_4, if_neg w3_5, if_pos w3_6]) (rfl) dX7_count_168
  refine lv_tableOut (tgt := 169) hx hb dX7_count_3 (db_out7 w3_0 w3_1 w3_2 w3_3 w3_4 w3_5 w3_6) (by decide) ?_
  refine lv_iconst (v := -1) hx hb dX7_count_169 (by decide) ?_
  exact hret _ _ _ _ _ _ hS (by rw [mm_count, if_neg w3_0, if_neg w3_1, if_neg w3_2, if_neg w3_3, if_neg w3_4, if_neg w3_5, if_neg w3_6]) (rfl) dX7_count_170

set_option maxHeartbeats 4000000 in
set_option maxRecDepth 100000 in
theorem c_X7_ran (l : Launch) (Γ : db_G) (N : Nat → Nat) (L : Nat → Nat → Nat) (X : db_X) (hN : bb_N N) (k : Int32) (th : Nat) (hth : X 0 0 34 = nI th) (hth2 : th < 2 ^ 31) : db_C l Γ yX7_ran cX7_ran 2 (some .int) (db_rm 0 0) [.ref (L 0 0), .int k] L mm_ok (mm_cel Γ N L) X (some (.int (mm_ran X th k))) X := by
  have hn0 : N 0 < 2 ^ 31 := by have := hN.2.1; omega
  have hn1 : N 1 < 2 ^ 31 := by have := hN.2.2.1; omega
  have hn2 : N 2 < 2 ^ 31 := by have := hN.2.2.2.1; omega
  have hn3 : N 3 < 2 ^ 31 := by have := hN.2.2.2.2; omega
  refine db_introI (by decide +kernel) (Nat.le_of_ble_eq_true rfl) ?_
  intro p e s m args below meth c A Q ls hC hS hl hret
  have hC : db_Cx p s m args meth c Γ RX7 cX7_ran 2 (some .int) := hC
  obtain ⟨hx, hb, hml, hr, hlocks, hown, hts, hK⟩ := id hC
  have hl : lv_has ls 2 [(0, .ref (L 0 0)), (1, .int k)] := hl
  have K37 : ∀ (h37 : mm_ran X th k = -2) (H : Heap) (locs : List Loc) (hS : db_S Γ A s.heap L mm_ok (mm_cel Γ N L) X H locs) (ls : Array Slot) (hl : lv_has ls 2 []), W p l e (db_rm 0 0) s m args below meth c H locs 0 0 Q (F0 m 37 ls []) := by
    intro  h37 H locs hS ls hl
    refine lv_bipush (v := -2) hx hb dX7_ran_37 (by decide) ?_
    exact hret _ _ _ _ _ _ hS (h37.symm) (rfl) dX7_ran_39
  refine lv_iload_n hx hb dX7_ran_0 rfl (lv_at hl 1 rfl) ?_
  refine lv_if_lt (tgt := 37) hx hb dX7_ran_1 (by decide) (fun c1 => ?_) (fun c1 => ?_)
  · exact K37  (by simp [mm_ran, c1]) _ _ hS _ (lv_sub hl [] rfl)
  · refine lv_iload_n hx hb dX7_ran_4 rfl (lv_at hl 1 rfl) ?_
    refine lv_bipush (v := 100) hx hb dX7_ran_5 (by decide) ?_
    refine lv_icmp_ge (tgt := 37) hx hb dX7_ran_7 (by decide) (fun c7 => ?_) (fun c7 => ?_)
    · exact K37  (by simp [mm_ran, c1, c7]) _ _ hS _ (lv_sub hl [] rfl)
    · refine lv_iload_n hx hb dX7_ran_10 rfl (lv_at hl 1 rfl) ?_
      refine lv_aload_n hx hb dX7_ran_11 rfl (lv_at hl 0 rfl) ?_
      refine db_get hx hb hts hown hK hS 0 0 (mm_k 0 rfl) rfl db_c7 34 (by decide) wd_475 rfl dX7_ran_12 ?_
      refine lv_icmp_ge (tgt := 37) hx hb dX7_ran_15 (by decide) (fun c15 => ?_) (fun c15 => ?_)
      · exact K37  (by simp [mm_ran, c1, c7, c15]) _ _ hS _ (lv_sub hl [] rfl)
      · obtain ⟨j, hj, rfl⟩ : ∃ j : Nat, j < th ∧ k = nI j := by
          obtain ⟨j, hj, ej⟩ := nI_of (x := k) c1
          refine ⟨j, ?_, ej⟩
          rw [ej, hth] at c15
          exact Nat.not_le.mp (fun q => c15 ((nI_leI hth2 hj).mpr q))
        refine lv_aload_n hx hb dX7_ran_18 rfl (lv_at hl 0 rfl) ?_
        refine db_get hx hb hts hown hK hS 0 0 (mm_k 0 rfl) rfl db_c7 33 (by decide) wd_474 rfl dX7_ran_19 ?_
        refine lv_aload_n hx hb dX7_ran_22 rfl (lv_at hl 0 rfl) ?_
        refine db_get hx hb hts hown hK hS 0 0 (mm_k 0 rfl) rfl db_c7 34 (by decide) wd_475 rfl dX7_ran_23 ?_
        refine lv_iconst (v := 1) hx hb dX7_ran_26 (by decide) ?_
        refine lv_isub hx hb dX7_ran_27 ?_
        refine lv_iload_n hx hb dX7_ran_28 rfl (lv_at hl 1 rfl) ?_
        refine lv_isub hx hb dX7_ran_29 ?_
        refine lv_bipush (v := 100) hx hb dX7_ran_30 (by decide) ?_
        refine lv_irem hx hb dX7_ran_32 (by decide) ?_
        have h36 : X 0 0 34 - 1 - nI j = nI (th - 1 - j) := by
          rw [hth, show (1 : Int32) = nI 1 from rfl, pk_sub (by omega), pk_sub (by omega)]
        refine db_ild hx hb hK hS 33 0 (mm_k 33 rfl) rfl ((th - 1 - j) % 100) (by rw [h36]; exact pk_rem (by omega) (by decide) (by decide)) (Nat.mod_lt _ (by decide)) (by decide) dX7_ran_33 ?_
        refine lv_goto (tgt := 39) hx hb dX7_ran_34 (by decide) ?_
        exact hret _ _ _ _ _ _ hS (by simp [mm_ran, c1, c7, c15, nI_clamp (show j < 2 ^ 31 by omega)]) (rfl) dX7_ran_39

set_option maxHeartbeats 4000000 in
set_option maxRecDepth 100000 in
theorem c_X7_run (l : Launch) (Γ : db_G) (N : Nat → Nat) (L : Nat → Nat → Nat) (X : db_X) (hN : bb_N N) (n : Int32) (sz tm th : Nat) (hI : mm_I N sz X) (htm : X 0 0 30 = nI tm) (htm2 : tm + 90000 < 2 ^ 31) (hth : X 0 0 34 = nI th) (hth2 : th + 3000 < 2 ^ 31) : db_C l Γ yX7_run cX7_run 4 (some .int) (db_rm 8 176) [.ref (L 0 0), .int n] L mm_ok (mm_cel Γ N L) X (some (.int ((mm_run N X sz th n).1))) ((mm_run N X sz th n).2) := by
  have hn0 : N 0 < 2 ^ 31 := by have := hN.2.1; omega
  have hn1 : N 1 < 2 ^ 31 := by have := hN.2.2.1; omega
  have hn2 : N 2 < 2 ^ 31 := by have := hN.2.2.2.1; omega
  have hn3 : N 3 < 2 ^ 31 := by have := hN.2.2.2.2; omega
  refine db_introI (by decide +kernel) (Nat.le_of_ble_eq_true rfl) ?_
  intro p e s m args below meth c A Q ls hC hS hl hret
  have hC : db_Cx p s m args meth c Γ RX7 cX7_run 4 (some .int) := hC
  obtain ⟨hx, hb, hml, hr, hlocks, hown, hts, hK⟩ := id hC
  have hl : lv_has ls 4 [(0, .ref (L 0 0)), (1, .int n)] := hl
  have K11 : ∀ (h11 : mm_run N X sz th n = (-1, X)) (H : Heap) (locs : List Loc) (hS : db_S Γ A s.heap L mm_ok (mm_cel Γ N L) X H locs) (ls : Array Slot) (hl : lv_has ls 4 []), W p l e (db_rm 8 176) s m args below meth c H locs 0 0 Q (F0 m 11 ls []) := by
    intro  h11 H locs hS ls hl
    refine lv_iconst (v := -1) hx hb dX7_run_11 (by decide) ?_
    exact hret _ _ _ _ _ _ hS (by rw [h11]) (by rw [h11]) dX7_run_12
  refine lv_iload_n hx hb dX7_run_0 rfl (lv_at hl 1 rfl) ?_
  refine lv_if_lt (tgt := 11) hx hb dX7_run_1 (by decide) (fun c1 => ?_) (fun c1 => ?_)
  · exact K11  (by rw [mm_run, if_pos c1]) _ _ hS _ (lv_sub hl [] rfl)
  · refine lv_iload_n hx hb dX7_run_4 rfl (lv_at hl 1 rfl) ?_
    refine lv_sipush (v := 2000) hx hb dX7_run_5 (by decide) ?_
    refine lv_icmp_le (tgt := 13) hx hb dX7_run_8 (by decide) (fun c8 => ?_) (fun c8 => ?_)
    · obtain ⟨nn, hnn0, rfl⟩ := nI_of (x := n) c1
      have hnk : nn ≤ 2000 := by
        have q := c8
        rw [show (2000 : Int32) = nI 2000 from rfl] at q
        exact (nI_leI hnn0 (by decide)).mp q
      have hnn : nn < 2 ^ 31 := hnn0
      have hN40 : N 0 ≤ 40 := hN.2.1
      refine lv_iconst (v := 0) hx hb dX7_run_13 (by decide) ?_
      refine lv_istore_n (lv' := [(2, .int 0), (0, .ref (L 0 0)), (1, .int (nI nn))]) hx hb dX7_run_14 rfl hl (by decide) rfl (fun ls hl => ?_)
      refine lv_iconst (v := 0) hx hb dX7_run_15 (by decide) ?_
      refine lv_istore_n (lv' := [(3, .int 0), (2, .int 0), (0, .ref (L 0 0)), (1, .int (nI nn))]) hx hb dX7_run_16 rfl hl (by decide) rfl (fun ls hl => ?_)
      have K17 : ∀ (q : Nat) (u : Nat) (an : Int32) (Xa : db_X) (tu : Nat) (hq : nn + 1 - u ≤ q) (hu0 : u ≤ nn) (hIa : mm_I N sz Xa) (htm1 : Xa 0 0 30 = nI tu) (htu : tu ≤ tm + 40 * u) (hth1 : Xa 0 0 34 = nI (th + u)) (hrem : mm_rn N sz th nn 0 0 X = mm_rn N sz th (nn - u) u an Xa) (H : Heap) (locs : List Loc) (hS : db_S Γ A s.heap L mm_ok (mm_cel Γ N L) Xa H locs) (ls : Array Slot) (hl : lv_has ls 4 [(0, .ref (L 0 0)), (1, .int (nI nn)), (2, .int (nI u)), (3, .int an)]), W p l e (db_rm 8 176) s m args below meth c H locs 0 0 Q (F0 m 17 ls []) := by
        intro q17
        induction q17 with
        | zero =>
          intro u an Xa tu hq17 hu0 hIa htm1 htu hth1 hrem
          exact absurd hq17 (by omega)
        | succ q17 ih17 =>
          intro u an Xa tu hq17 hu0 hIa htm1 htu hth1 hrem H locs hS ls hl
          refine lv_iload_n hx hb dX7_run_17 rfl (lv_at hl 2 rfl) ?_
          refine lv_iload_n hx hb dX7_run_18 rfl (lv_at hl 1 rfl) ?_
          refine lv_icmp_ge (tgt := 48) hx hb dX7_run_19 (by decide) (fun c19 => ?_) (fun c19 => ?_)
          · have hu : u = nn := by
              rcases Nat.lt_or_ge u (nn) with q9 | q9
              · exact absurd c19 (nI_ge q9 hnn)
              · omega
            refine lv_iload_n hx hb dX7_run_48 rfl (lv_at hl 2 rfl) ?_
            exact hret _ _ _ _ _ _ hS (by rw [mm_run, if_neg c1, if_neg (fun q => absurd c8 (Int32.not_le.mpr q)), nI_clamp hnn, hrem, hu, Nat.sub_self]; rfl) (by rw [mm_run, if_neg c1, if_neg (fun q => absurd c8 (Int32.not_le.mpr q)), nI_clamp hnn, hrem, hu, Nat.sub_self]; rfl) dX7_run_49
          · have hu : u < nn := by
              rcases Nat.lt_or_ge u (nn) with q9 | q9
              · exact q9
              · exact absurd (nI_le q9 (by omega)) c19
            refine lv_aload_n hx hb dX7_run_22 rfl (lv_at hl 0 rfl) ?_
            refine db_get hx hb hts hown hK hS 0 0 (mm_k 0 rfl) rfl db_c7 5 (by decide) wd_446 rfl dX7_run_23 ?_
            refine lv_aload_n hx hb dX7_run_26 rfl (lv_at hl 0 rfl) ?_
            refine db_get hx hb hts hown hK hS 0 0 (mm_k 0 rfl) rfl db_c7 4 (by decide) wd_445 rfl dX7_run_27 ?_
            refine lv_icmp_ge (tgt := 48) hx hb dX7_run_30 (by decide) (fun c30 => ?_) (fun c30 => ?_)
            · refine lv_iload_n hx hb dX7_run_48 rfl (lv_at hl 2 rfl) ?_
              exact hret _ _ _ _ _ _ hS (by rw [mm_run, if_neg c1, if_neg (fun q => absurd c8 (Int32.not_le.mpr q)), nI_clamp hnn, hrem, show nn - u = (nn - (u + 1)) + 1 by omega, mm_rn, if_pos c30]) (by rw [mm_run, if_neg c1, if_neg (fun q => absurd c8 (Int32.not_le.mpr q)), nI_clamp hnn, hrem, show nn - u = (nn - (u + 1)) + 1 by omega, mm_rn, if_pos c30]) dX7_run_49
            · refine lv_iload_n hx hb dX7_run_33 rfl (lv_at hl 3 rfl) ?_
              refine lv_if_ne (tgt := 48) hx hb dX7_run_34 (by decide) (fun c34 => ?_) (fun c34 => ?_)
              · refine lv_iload_n hx hb dX7_run_48 rfl (lv_at hl 2 rfl) ?_
                exact hret _ _ _ _ _ _ hS (by rw [mm_run, if_neg c1, if_neg (fun q => absurd c8 (Int32.not_le.mpr q)), nI_clamp hnn, hrem, show nn - u = (nn - (u + 1)) + 1 by omega, mm_rn, if_neg c30, if_neg c34]) (by rw [mm_run, if_neg c1, if_neg (fun q => absurd c8 (Int32.not_le.mpr q)), nI_clamp hnn, hrem, show nn - u = (nn - (u + 1)) + 1 by omega, mm_rn, if_neg c30, if_neg c34]) dX7_run_49
              · obtain ⟨tv, htv, etv⟩ := mm_miss_tot (N := N) htm1 (N 0)
                refine lv_aload_n hx hb dX7_run_37 rfl (lv_at hl 0 rfl) ?_
                refine db_cV (As := []) (rest := []) (st1 := [.int ((mm_turn N Xa sz (th + u)).1)]) hC hS 0 0 (mm_k 0 rfl) rfl db_c7 (c_X7_turns l Γ N L Xa hN sz tu (th + u) hIa htm1 (by omega) hth1 (by omega)) (cw_X7_turns (Nat.le_of_ble_eq_true rfl) (Nat.le_of_ble_eq_true rfl)) wd_603 wd_605 ws_42 rfl hl.1 rfl (Nat.le_of_ble_eq_true rfl) dX7_run_38 ⟨Nat.le_of_ble_eq_true rfl, Nat.le_of_ble_eq_true rfl⟩ rfl (fun H locs hS => ?_)
                obtain ⟨X1, eX1⟩ : ∃ z, z = (mm_turn N Xa sz (th + u)).2 := ⟨_, rfl⟩
                rw [← eX1] at hS
                refine lv_istore_n (lv' := [(3, .int ((mm_turn N Xa sz (th + u)).1)), (0, .ref (L 0 0)), (1, .int (nI nn)), (2, .int (nI u))]) hx hb dX7_run_41 rfl hl (by decide) rfl (fun ls hl => ?_)
                refine lv_iinc (v := (nI (u + 1))) (lv' := [(2, .int (nI (u + 1))), (3, .int ((mm_turn N Xa sz (th + u)).1)), (0, .ref (L 0 0)), (1, .int (nI nn))]) hx hb dX7_run_42 hl (k := 3) rfl (nI_1 _) (by decide) rfl (fun ls hl => ?_)
                refine lv_goto (tgt := 17) hx hb dX7_run_45 (by decide) ?_
                exact ih17 (u + 1) ((mm_turn N Xa sz (th + u)).1) X1 tv (by omega) hu (by rw [eX1]; exact mm_I.turn hN hIa) (by rw [eX1, mm_turn_30]; exact etv) (by omega) (by rw [eX1, mm_turn_34, hth1, nI_1]; rfl) (by rw [hrem, show nn - u = (nn - (u + 1)) + 1 by omega, mm_rn, if_neg c30, if_pos c34, eX1]) _ _ hS _ (lv_sub hl [2, 3, 0, 1] rfl)
      exact K17 _ 0 0 X tm (Nat.le_refl _) (Nat.zero_le _) hI htm (by omega) hth rfl _ _ hS _ (lv_sub hl [2, 3, 1, 0] rfl)
    · exact K11  (by rw [mm_run, if_neg c1, if_pos (Int32.not_le.mp c8)]) _ _ hS _ (lv_sub hl [] rfl)
