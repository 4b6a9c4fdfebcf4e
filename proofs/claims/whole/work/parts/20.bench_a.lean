set_option maxHeartbeats 4000000 in
set_option maxRecDepth 100000 in
/-- isLive -/
theorem c_X6_isLive (l : Launch) (Γ : db_G) (N : Nat → Nat) (L : Nat → Nat → Nat) (cnt : Nat) (X : db_X) (hN : bb_N N) (t : Int32) : db_C l Γ yX6_isLive cX6_isLive 2 (some .boolean) (db_rm 0 0) [.ref (L 0 0), .int t] L (bb_ok (N 0) cnt) (bb_cel Γ N L) X (some (.int (bb_isLive N X t))) X := by
  have hn0 : N 0 < 2 ^ 31 := by have := hN.2.1; omega
  have hn1 : N 1 < 2 ^ 31 := by have := hN.2.2.1; omega
  have hn2 : N 2 < 2 ^ 31 := by have := hN.2.2.2.1; omega
  have hn3 : N 3 < 2 ^ 31 := by have := hN.2.2.2.2; omega
  refine db_introZ (by decide +kernel) (Nat.le_of_ble_eq_true rfl) bb_isLive01 ?_
  intro p e s m args below meth c A Q ls hC hS hl hret
  have hC : db_Cx p s m args meth c Γ RX6 cX6_isLive 2 (some .boolean) := hC
  obtain ⟨hx, hb, hml, hr, hlocks, hown, hts, hK⟩ := id hC
  have hl : lv_has ls 2 [(0, .ref (L 0 0)), (1, .int t)] := hl
  refine lv_iload_n hx hb dX6_isLive_0 rfl (lv_at hl 1 rfl) ?_
  refine lv_if_lt (tgt := 29) hx hb dX6_isLive_1 (by decide) (fun c1 => ?_) (fun c1 => ?_)
  · refine lv_iconst (v := 0) hx hb dX6_isLive_29 (by decide) ?_
    exact hret _ _ _ _ _ _ hS (by simp [bb_isLive, c1]) (rfl) dX6_isLive_30
  · refine lv_iload_n hx hb dX6_isLive_4 rfl (lv_at hl 1 rfl) ?_
    refine lv_aload_n hx hb dX6_isLive_5 rfl (lv_at hl 0 rfl) ?_
    refine db_get hx hb hts hown hK hS 0 0 (bb_k 0 rfl) rfl db_c6 0 (by decide) wd_172 rfl dX6_isLive_6 ?_
    refine db_alen hx hb hK hS 11 0 (bb_k 11 rfl) 2 rfl rfl dX6_isLive_9 ?_
    refine lv_icmp_ge (tgt := 29) hx hb dX6_isLive_10 (by decide) (fun c10 => ?_) (fun c10 => ?_)
    · refine lv_iconst (v := 0) hx hb dX6_isLive_29 (by decide) ?_
      exact hret _ _ _ _ _ _ hS (by simp [bb_isLive, c1, c10]) (rfl) dX6_isLive_30
    · obtain ⟨j, hj, rfl⟩ := db_ix hn0 c1 c10
      refine lv_aload_n hx hb dX6_isLive_13 rfl (lv_at hl 0 rfl) ?_
      refine db_get hx hb hts hown hK hS 0 0 (bb_k 0 rfl) rfl db_c6 0 (by decide) wd_172 rfl dX6_isLive_14 ?_
      refine lv_iload_n hx hb dX6_isLive_17 rfl (lv_at hl 1 rfl) ?_
      refine db_ald hx hb hK hS 11 0 (bb_k 11 rfl) 2 rfl rfl j rfl hj hn0 rfl dX6_isLive_18 ?_
      refine db_getN hx hb hts hown hK hS 1 j (bb_kT hj) rfl db_c5 1 (by decide) wn_73 rfl dX6_isLive_19 ?_
      refine lv_if_eq (tgt := 29) hx hb dX6_isLive_22 (by decide) (fun c22 => ?_) (fun c22 => ?_)
      · refine lv_iconst (v := 0) hx hb dX6_isLive_29 (by decide) ?_
        exact hret _ _ _ _ _ _ hS (by simp [bb_isLive, c1, c10, c22, db_nIc hj hn0]) (rfl) dX6_isLive_30
      · refine lv_iconst (v := 1) hx hb dX6_isLive_25 (by decide) ?_
        refine lv_goto (tgt := 30) hx hb dX6_isLive_26 (by decide) ?_
        exact hret _ _ _ _ _ _ hS (by simp [bb_isLive, c1, c10, c22, db_nIc hj hn0]) (rfl) dX6_isLive_30

set_option maxHeartbeats 4000000 in
set_option maxRecDepth 100000 in
theorem c_X6_isLock (l : Launch) (Γ : db_G) (N : Nat → Nat) (L : Nat → Nat → Nat) (cnt : Nat) (X : db_X) (hN : bb_N N) (t : Int32) : db_C l Γ yX6_isLock cX6_isLock 2 (some .boolean) (db_rm 0 0) [.ref (L 0 0), .int t] L (bb_ok (N 0) cnt) (bb_cel Γ N L) X (some (.int (bb_isLock N t))) X := by
  have hn0 : N 0 < 2 ^ 31 := by have := hN.2.1; omega
  have hn1 : N 1 < 2 ^ 31 := by have := hN.2.2.1; omega
  have hn2 : N 2 < 2 ^ 31 := by have := hN.2.2.2.1; omega
  have hn3 : N 3 < 2 ^ 31 := by have := hN.2.2.2.2; omega
  refine db_introZ (by decide +kernel) (Nat.le_of_ble_eq_true rfl) bb_isLock01 ?_
  intro p e s m args below meth c A Q ls hC hS hl hret
  have hC : db_Cx p s m args meth c Γ RX6 cX6_isLock 2 (some .boolean) := hC
  obtain ⟨hx, hb, hml, hr, hlocks, hown, hts, hK⟩ := id hC
  have hl : lv_has ls 2 [(0, .ref (L 0 0)), (1, .int t)] := hl
  refine lv_iload_n hx hb dX6_isLock_0 rfl (lv_at hl 1 rfl) ?_
  refine lv_if_lt (tgt := 17) hx hb dX6_isLock_1 (by decide) (fun c1 => ?_) (fun c1 => ?_)
  · refine lv_iconst (v := 0) hx hb dX6_isLock_17 (by decide) ?_
    exact hret _ _ _ _ _ _ hS (by simp [bb_isLock, c1]) (rfl) dX6_isLock_18
  · refine lv_iload_n hx hb dX6_isLock_4 rfl (lv_at hl 1 rfl) ?_
    refine lv_aload_n hx hb dX6_isLock_5 rfl (lv_at hl 0 rfl) ?_
    refine db_get hx hb hts hown hK hS 0 0 (bb_k 0 rfl) rfl db_c6 1 (by decide) wd_173 rfl dX6_isLock_6 ?_
    refine db_alen hx hb hK hS 3 0 (bb_k 3 rfl) 0 rfl rfl dX6_isLock_9 ?_
    refine lv_icmp_ge (tgt := 17) hx hb dX6_isLock_10 (by decide) (fun c10 => ?_) (fun c10 => ?_)
    · refine lv_iconst (v := 0) hx hb dX6_isLock_17 (by decide) ?_
      exact hret _ _ _ _ _ _ hS (by simp [bb_isLock, c1, c10]) (rfl) dX6_isLock_18
    · refine lv_iconst (v := 1) hx hb dX6_isLock_13 (by decide) ?_
      refine lv_goto (tgt := 18) hx hb dX6_isLock_14 (by decide) ?_
      exact hret _ _ _ _ _ _ hS (by simp [bb_isLock, c1, c10]) (rfl) dX6_isLock_18

set_option maxHeartbeats 4000000 in
set_option maxRecDepth 100000 in
theorem c_X6_hasJob (l : Launch) (Γ : db_G) (N : Nat → Nat) (L : Nat → Nat → Nat) (cnt : Nat) (X : db_X) (hN : bb_N N) (t : Int32) : db_C l Γ yX6_hasJob cX6_hasJob 2 (some .boolean) (db_rm 1 21) [.ref (L 0 0), .int t] L (bb_ok (N 0) cnt) (bb_cel Γ N L) X (some (.int (bb_hasJob N X t))) X := by
  have hn0 : N 0 < 2 ^ 31 := by have := hN.2.1; omega
  have hn1 : N 1 < 2 ^ 31 := by have := hN.2.2.1; omega
  have hn2 : N 2 < 2 ^ 31 := by have := hN.2.2.2.1; omega
  have hn3 : N 3 < 2 ^ 31 := by have := hN.2.2.2.2; omega
  refine db_introZ (by decide +kernel) (Nat.le_of_ble_eq_true rfl) bb_hasJob01 ?_
  intro p e s m args below meth c A Q ls hC hS hl hret
  have hC : db_Cx p s m args meth c Γ RX6 cX6_hasJob 2 (some .boolean) := hC
  obtain ⟨hx, hb, hml, hr, hlocks, hown, hts, hK⟩ := id hC
  have hl : lv_has ls 2 [(0, .ref (L 0 0)), (1, .int t)] := hl
  refine lv_aload_n hx hb dX6_hasJob_0 rfl (lv_at hl 0 rfl) ?_
  refine lv_iload_n hx hb dX6_hasJob_1 rfl (lv_at hl 1 rfl) ?_
  refine db_cV (As := [.int t]) (rest := []) (st1 := [.int (bb_isLive N X t)]) hC hS 0 0 (bb_k 0 rfl) rfl db_c6 (c_X6_isLive l Γ N L cnt X hN t ) (cw_X6_isLive (Nat.le_of_ble_eq_true rfl) (Nat.le_of_ble_eq_true rfl)) wd_209 wd_211 ws_1 rfl hl.1 rfl (Nat.le_of_ble_eq_true rfl) dX6_hasJob_2 ⟨Nat.le_of_ble_eq_true rfl, Nat.le_of_ble_eq_true rfl⟩ rfl (fun H locs hS => ?_)
  refine lv_if_eq (tgt := 27) hx hb dX6_hasJob_5 (by decide) (fun c5 => ?_) (fun c5 => ?_)
  · refine lv_iconst (v := 0) hx hb dX6_hasJob_27 (by decide) ?_
    exact hret _ _ _ _ _ _ hS (by simp [bb_hasJob, c5]) (rfl) dX6_hasJob_28
  · obtain ⟨j, hj, rfl⟩ := bb_isLive_ix hn0 c5
    refine lv_aload_n hx hb dX6_hasJob_8 rfl (lv_at hl 0 rfl) ?_
    refine db_get hx hb hts hown hK hS 0 0 (bb_k 0 rfl) rfl db_c6 0 (by decide) wd_172 rfl dX6_hasJob_9 ?_
    refine lv_iload_n hx hb dX6_hasJob_12 rfl (lv_at hl 1 rfl) ?_
    refine db_ald hx hb hK hS 11 0 (bb_k 11 rfl) 2 rfl rfl j rfl hj hn0 rfl dX6_hasJob_13 ?_
    refine db_getN hx hb hts hown hK hS 1 j (bb_kT hj) rfl db_c5 0 (by decide) wn_71 rfl dX6_hasJob_14 ?_
    refine db_getN hx hb hts hown hK hS 2 j (bb_kJ hj) rfl db_c0 0 (by decide) wn_42 rfl dX6_hasJob_17 ?_
    refine lv_if_eq (tgt := 27) hx hb dX6_hasJob_20 (by decide) (fun c20 => ?_) (fun c20 => ?_)
    · refine lv_iconst (v := 0) hx hb dX6_hasJob_27 (by decide) ?_
      exact hret _ _ _ _ _ _ hS (by simp [bb_hasJob, c5, c20, db_nIc hj hn0]) (rfl) dX6_hasJob_28
    · refine lv_iconst (v := 1) hx hb dX6_hasJob_23 (by decide) ?_
      refine lv_goto (tgt := 28) hx hb dX6_hasJob_24 (by decide) ?_
      exact hret _ _ _ _ _ _ hS (by simp [bb_hasJob, c5, c20, db_nIc hj hn0]) (rfl) dX6_hasJob_28

set_option maxHeartbeats 4000000 in
set_option maxRecDepth 100000 in
theorem c_X6_remaining (l : Launch) (Γ : db_G) (N : Nat → Nat) (L : Nat → Nat → Nat) (cnt : Nat) (X : db_X) (hN : bb_N N) (t : Int32) : db_C l Γ yX6_remaining cX6_remaining 2 (some .int) (db_rm 2 42) [.ref (L 0 0), .int t] L (bb_ok (N 0) cnt) (bb_cel Γ N L) X (some (.int (bb_remaining N X t))) X := by
  have hn0 : N 0 < 2 ^ 31 := by have := hN.2.1; omega
  have hn1 : N 1 < 2 ^ 31 := by have := hN.2.2.1; omega
  have hn2 : N 2 < 2 ^ 31 := by have := hN.2.2.2.1; omega
  have hn3 : N 3 < 2 ^ 31 := by have := hN.2.2.2.2; omega
  refine db_introI (by decide +kernel) (Nat.le_of_ble_eq_true rfl) ?_
  intro p e s m args below meth c A Q ls hC hS hl hret
  have hC : db_Cx p s m args meth c Γ RX6 cX6_remaining 2 (some .int) := hC
  obtain ⟨hx, hb, hml, hr, hlocks, hown, hts, hK⟩ := id hC
  have hl : lv_has ls 2 [(0, .ref (L 0 0)), (1, .int t)] := hl
  refine lv_aload_n hx hb dX6_remaining_0 rfl (lv_at hl 0 rfl) ?_
  refine lv_iload_n hx hb dX6_remaining_1 rfl (lv_at hl 1 rfl) ?_
  refine db_cV (As := [.int t]) (rest := []) (st1 := [.int (bb_hasJob N X t)]) hC hS 0 0 (bb_k 0 rfl) rfl db_c6 (c_X6_hasJob l Γ N L cnt X hN t ) (cw_X6_hasJob (Nat.le_of_ble_eq_true rfl) (Nat.le_of_ble_eq_true rfl)) wd_369 wd_371 ws_28 rfl hl.1 rfl (Nat.le_of_ble_eq_true rfl) dX6_remaining_2 ⟨Nat.le_of_ble_eq_true rfl, Nat.le_of_ble_eq_true rfl⟩ rfl (fun H locs hS => ?_)
  refine lv_if_eq (tgt := 33) hx hb dX6_remaining_5 (by decide) (fun c5 => ?_) (fun c5 => ?_)
  · refine lv_iconst (v := 0) hx hb dX6_remaining_33 (by decide) ?_
    exact hret _ _ _ _ _ _ hS (by simp [bb_remaining, c5]) (rfl) dX6_remaining_34
  · obtain ⟨j, hj, rfl⟩ := bb_hasJob_ix hn0 c5
    refine lv_aload_n hx hb dX6_remaining_8 rfl (lv_at hl 0 rfl) ?_
    refine db_get hx hb hts hown hK hS 0 0 (bb_k 0 rfl) rfl db_c6 0 (by decide) wd_172 rfl dX6_remaining_9 ?_
    refine lv_iload_n hx hb dX6_remaining_12 rfl (lv_at hl 1 rfl) ?_
    refine db_ald hx hb hK hS 11 0 (bb_k 11 rfl) 2 rfl rfl j rfl hj hn0 rfl dX6_remaining_13 ?_
    refine db_getN hx hb hts hown hK hS 1 j (bb_kT hj) rfl db_c5 3 (by decide) wn_77 rfl dX6_remaining_14 ?_
    refine lv_aload_n hx hb dX6_remaining_17 rfl (lv_at hl 0 rfl) ?_
    refine db_get hx hb hts hown hK hS 0 0 (bb_k 0 rfl) rfl db_c6 0 (by decide) wd_172 rfl dX6_remaining_18 ?_
    refine lv_iload_n hx hb dX6_remaining_21 rfl (lv_at hl 1 rfl) ?_
    refine db_ald hx hb hK hS 11 0 (bb_k 11 rfl) 2 rfl rfl j rfl hj hn0 rfl dX6_remaining_22 ?_
    refine db_getN hx hb hts hown hK hS 1 j (bb_kT hj) rfl db_c5 0 (by decide) wn_71 rfl dX6_remaining_23 ?_
    refine db_getN hx hb hts hown hK hS 2 j (bb_kJ hj) rfl db_c0 3 (by decide) wn_49 rfl dX6_remaining_26 ?_
    refine lv_isub hx hb dX6_remaining_29 ?_
    refine lv_goto (tgt := 34) hx hb dX6_remaining_30 (by decide) ?_
    exact hret _ _ _ _ _ _ hS (by simp [bb_remaining, c5, db_nIc hj hn0]) (rfl) dX6_remaining_34

set_option maxHeartbeats 4000000 in
set_option maxRecDepth 100000 in
theorem c_X6_deadlineOf (l : Launch) (Γ : db_G) (N : Nat → Nat) (L : Nat → Nat → Nat) (cnt : Nat) (X : db_X) (hN : bb_N N) (t : Int32) : db_C l Γ yX6_deadlineOf cX6_deadlineOf 2 (some .int) (db_rm 2 42) [.ref (L 0 0), .int t] L (bb_ok (N 0) cnt) (bb_cel Γ N L) X (some (.int (bb_deadlineOf N X t))) X := by
  have hn0 : N 0 < 2 ^ 31 := by have := hN.2.1; omega
  have hn1 : N 1 < 2 ^ 31 := by have := hN.2.2.1; omega
  have hn2 : N 2 < 2 ^ 31 := by have := hN.2.2.2.1; omega
  have hn3 : N 3 < 2 ^ 31 := by have := hN.2.2.2.2; omega
  refine db_introI (by decide +kernel) (Nat.le_of_ble_eq_true rfl) ?_
  intro p e s m args below meth c A Q ls hC hS hl hret
  have hC : db_Cx p s m args meth c Γ RX6 cX6_deadlineOf 2 (some .int) := hC
  obtain ⟨hx, hb, hml, hr, hlocks, hown, hts, hK⟩ := id hC
  have hl : lv_has ls 2 [(0, .ref (L 0 0)), (1, .int t)] := hl
  refine lv_aload_n hx hb dX6_deadlineOf_0 rfl (lv_at hl 0 rfl) ?_
  refine lv_iload_n hx hb dX6_deadlineOf_1 rfl (lv_at hl 1 rfl) ?_
  refine db_cV (As := [.int t]) (rest := []) (st1 := [.int (bb_hasJob N X t)]) hC hS 0 0 (bb_k 0 rfl) rfl db_c6 (c_X6_hasJob l Γ N L cnt X hN t ) (cw_X6_hasJob (Nat.le_of_ble_eq_true rfl) (Nat.le_of_ble_eq_true rfl)) wd_369 wd_371 ws_28 rfl hl.1 rfl (Nat.le_of_ble_eq_true rfl) dX6_deadlineOf_2 ⟨Nat.le_of_ble_eq_true rfl, Nat.le_of_ble_eq_true rfl⟩ rfl (fun H locs hS => ?_)
  refine lv_if_eq (tgt := 23) hx hb dX6_deadlineOf_5 (by decide) (fun c5 => ?_) (fun c5 => ?_)
  · refine lv_iconst (v := -1) hx hb dX6_deadlineOf_23 (by decide) ?_
    exact hret _ _ _ _ _ _ hS (by simp [bb_deadlineOf, c5]) (rfl) dX6_deadlineOf_24
  · obtain ⟨j, hj, rfl⟩ := bb_hasJob_ix hn0 c5
    refine lv_aload_n hx hb dX6_deadlineOf_8 rfl (lv_at hl 0 rfl) ?_
    refine db_get hx hb hts hown hK hS 0 0 (bb_k 0 rfl) rfl db_c6 0 (by decide) wd_172 rfl dX6_deadlineOf_9 ?_
    refine lv_iload_n hx hb dX6_deadlineOf_12 rfl (lv_at hl 1 rfl) ?_
    refine db_ald hx hb hK hS 11 0 (bb_k 11 rfl) 2 rfl rfl j rfl hj hn0 rfl dX6_deadlineOf_13 ?_
    refine db_getN hx hb hts hown hK hS 1 j (bb_kT hj) rfl db_c5 0 (by decide) wn_71 rfl dX6_deadlineOf_14 ?_
    refine db_getN hx hb hts hown hK hS 2 j (bb_kJ hj) rfl db_c0 2 (by decide) wn_47 rfl dX6_deadlineOf_17 ?_
    refine lv_goto (tgt := 24) hx hb dX6_deadlineOf_20 (by decide) ?_
    exact hret _ _ _ _ _ _ hS (by simp [bb_deadlineOf, c5, db_nIc hj hn0]) (rfl) dX6_deadlineOf_24

set_option maxHeartbeats 4000000 in
set_option maxRecDepth 100000 in
theorem c_X6_waitsFor (l : Launch) (Γ : db_G) (N : Nat → Nat) (L : Nat → Nat → Nat) (cnt : Nat) (X : db_X) (hN : bb_N N) (t : Int32) : db_C l Γ yX6_waitsFor cX6_waitsFor 2 (some .int) (db_rm 2 42) [.ref (L 0 0), .int t] L (bb_ok (N 0) cnt) (bb_cel Γ N L) X (some (.int (bb_waitsFor N X t))) X := by
  have hn0 : N 0 < 2 ^ 31 := by have := hN.2.1; omega
  have hn1 : N 1 < 2 ^ 31 := by have := hN.2.2.1; omega
  have hn2 : N 2 < 2 ^ 31 := by have := hN.2.2.2.1; omega
  have hn3 : N 3 < 2 ^ 31 := by have := hN.2.2.2.2; omega
  refine db_introI (by decide +kernel) (Nat.le_of_ble_eq_true rfl) ?_
  intro p e s m args below meth c A Q ls hC hS hl hret
  have hC : db_Cx p s m args meth c Γ RX6 cX6_waitsFor 2 (some .int) := hC
  obtain ⟨hx, hb, hml, hr, hlocks, hown, hts, hK⟩ := id hC
  have hl : lv_has ls 2 [(0, .ref (L 0 0)), (1, .int t)] := hl
  refine lv_aload_n hx hb dX6_waitsFor_0 rfl (lv_at hl 0 rfl) ?_
  refine lv_iload_n hx hb dX6_waitsFor_1 rfl (lv_at hl 1 rfl) ?_
  refine db_cV (As := [.int t]) (rest := []) (st1 := [.int (bb_hasJob N X t)]) hC hS 0 0 (bb_k 0 rfl) rfl db_c6 (c_X6_hasJob l Γ N L cnt X hN t ) (cw_X6_hasJob (Nat.le_of_ble_eq_true rfl) (Nat.le_of_ble_eq_true rfl)) wd_369 wd_371 ws_28 rfl hl.1 rfl (Nat.le_of_ble_eq_true rfl) dX6_waitsFor_2 ⟨Nat.le_of_ble_eq_true rfl, Nat.le_of_ble_eq_true rfl⟩ rfl (fun H locs hS => ?_)
  refine lv_if_eq (tgt := 23) hx hb dX6_waitsFor_5 (by decide) (fun c5 => ?_) (fun c5 => ?_)
  · refine lv_iconst (v := -1) hx hb dX6_waitsFor_23 (by decide) ?_
    exact hret _ _ _ _ _ _ hS (by simp [bb_waitsFor, c5]) (rfl) dX6_waitsFor_24
  · obtain ⟨j, hj, rfl⟩ := bb_hasJob_ix hn0 c5
    refine lv_aload_n hx hb dX6_waitsFor_8 rfl (lv_at hl 0 rfl) ?_
    refine db_get hx hb hts hown hK hS 0 0 (bb_k 0 rfl) rfl db_c6 0 (by decide) wd_172 rfl dX6_waitsFor_9 ?_
    refine lv_iload_n hx hb dX6_waitsFor_12 rfl (lv_at hl 1 rfl) ?_
    refine db_ald hx hb hK hS 11 0 (bb_k 11 rfl) 2 rfl rfl j rfl hj hn0 rfl dX6_waitsFor_13 ?_
    refine db_getN hx hb hts hown hK hS 1 j (bb_kT hj) rfl db_c5 0 (by decide) wn_71 rfl dX6_waitsFor_14 ?_
    refine db_getN hx hb hts hown hK hS 2 j (bb_kJ hj) rfl db_c0 4 (by decide) wn_51 rfl dX6_waitsFor_17 ?_
    refine lv_goto (tgt := 24) hx hb dX6_waitsFor_20 (by decide) ?_
    exact hret _ _ _ _ _ _ hS (by simp [bb_waitsFor, c5, db_nIc hj hn0]) (rfl) dX6_waitsFor_24

set_option maxHeartbeats 4000000 in
set_option maxRecDepth 100000 in
theorem c_X6_owner (l : Launch) (Γ : db_G) (N : Nat → Nat) (L : Nat → Nat → Nat) (cnt : Nat) (X : db_X) (hN : bb_N N) (t : Int32) : db_C l Γ yX6_owner cX6_owner 2 (some .int) (db_rm 1 21) [.ref (L 0 0), .int t] L (bb_ok (N 0) cnt) (bb_cel Γ N L) X (some (.int (bb_owner N X t))) X := by
  have hn0 : N 0 < 2 ^ 31 := by have := hN.2.1; omega
  have hn1 : N 1 < 2 ^ 31 := by have := hN.2.2.1; omega
  have hn2 : N 2 < 2 ^ 31 := by have := hN.2.2.2.1; omega
  have hn3 : N 3 < 2 ^ 31 := by have := hN.2.2.2.2; omega
  refine db_introI (by decide +kernel) (Nat.le_of_ble_eq_true rfl) ?_
  intro p e s m args below meth c A Q ls hC hS hl hret
  have hC : db_Cx p s m args meth c Γ RX6 cX6_owner 2 (some .int) := hC
  obtain ⟨hx, hb, hml, hr, hlocks, hown, hts, hK⟩ := id hC
  have hl : lv_has ls 2 [(0, .ref (L 0 0)), (1, .int t)] := hl
  refine lv_aload_n hx hb dX6_owner_0 rfl (lv_at hl 0 rfl) ?_
  refine lv_iload_n hx hb dX6_owner_1 rfl (lv_at hl 1 rfl) ?_
  refine db_cV (As := [.int t]) (rest := []) (st1 := [.int (bb_isLock N t)]) hC hS 0 0 (bb_k 0 rfl) rfl db_c6 (c_X6_isLock l Γ N L cnt X hN t ) (cw_X6_isLock (Nat.le_of_ble_eq_true rfl) (Nat.le_of_ble_eq_true rfl)) wd_213 wd_215 ws_2 rfl hl.1 rfl (Nat.le_of_ble_eq_true rfl) dX6_owner_2 ⟨Nat.le_of_ble_eq_true rfl, Nat.le_of_ble_eq_true rfl⟩ rfl (fun H locs hS => ?_)
  refine lv_if_eq (tgt := 17) hx hb dX6_owner_5 (by decide) (fun c5 => ?_) (fun c5 => ?_)
  · refine lv_iconst (v := -1) hx hb dX6_owner_17 (by decide) ?_
    exact hret _ _ _ _ _ _ hS (by simp [bb_owner, c5]) (rfl) dX6_owner_18
  · obtain ⟨j, hj, rfl⟩ := bb_isLock_ix hn1 c5
    refine lv_aload_n hx hb dX6_owner_8 rfl (lv_at hl 0 rfl) ?_
    refine db_get hx hb hts hown hK hS 0 0 (bb_k 0 rfl) rfl db_c6 1 (by decide) wd_173 rfl dX6_owner_9 ?_
    refine lv_iload_n hx hb dX6_owner_12 rfl (lv_at hl 1 rfl) ?_
    refine db_ild hx hb hK hS 3 0 (bb_k 3 rfl) rfl j rfl hj hn1 dX6_owner_13 ?_
    refine lv_goto (tgt := 18) hx hb dX6_owner_14 (by decide) ?_
    exact hret _ _ _ _ _ _ hS (by simp [bb_owner, c5, db_nIc hj hn1]) (rfl) dX6_owner_18

set_option maxHeartbeats 4000000 in
set_option maxRecDepth 100000 in
theorem c_X6_holderAwaitedBy (l : Launch) (Γ : db_G) (N : Nat → Nat) (L : Nat → Nat → Nat) (cnt : Nat) (X : db_X) (hN : bb_N N) (i : Nat) (hW : bb_W N X) (hi : i < N 0) : db_C l Γ yX6_holderAwaitedBy cX6_holderAwaitedBy 3 (some .int) (db_rm 0 0) [.ref (L 0 0), .int (nI i)] L (bb_ok (N 0) cnt) (bb_cel Γ N L) X (some (.int (bb_hab X i))) X := by
  have hn0 : N 0 < 2 ^ 31 := by have := hN.2.1; omega
  have hn1 : N 1 < 2 ^ 31 := by have := hN.2.2.1; omega
  have hn2 : N 2 < 2 ^ 31 := by have := hN.2.2.2.1; omega
  have hn3 : N 3 < 2 ^ 31 := by have := hN.2.2.2.2; omega
  refine db_introI (by decide +kernel) (Nat.le_of_ble_eq_true rfl) ?_
  intro p e s m args below meth c A Q ls hC hS hl hret
  have hC : db_Cx p s m args meth c Γ RX6 cX6_holderAwaitedBy 3 (some .int) := hC
  obtain ⟨hx, hb, hml, hr, hlocks, hown, hts, hK⟩ := id hC
  have hl : lv_has ls 3 [(0, .ref (L 0 0)), (1, .int (nI i))] := hl
  refine lv_aload_n hx hb dX6_holderAwaitedBy_0 rfl (lv_at hl 0 rfl) ?_
  refine db_get hx hb hts hown hK hS 0 0 (bb_k 0 rfl) rfl db_c6 0 (by decide) wd_172 rfl dX6_holderAwaitedBy_1 ?_
  refine lv_iload_n hx hb dX6_holderAwaitedBy_4 rfl (lv_at hl 1 rfl) ?_
  refine db_ald hx hb hK hS 11 0 (bb_k 11 rfl) 2 rfl rfl i rfl hi hn0 rfl dX6_holderAwaitedBy_5 ?_
  refine db_getN hx hb hts hown hK hS 1 i (bb_kT hi) rfl db_c5 0 (by decide) wn_71 rfl dX6_holderAwaitedBy_6 ?_
  refine db_getN hx hb hts hown hK hS 2 i (bb_kJ hi) rfl db_c0 4 (by decide) wn_51 rfl dX6_holderAwaitedBy_9 ?_
  refine lv_istore_n (lv' := [(2, .int (X 2 i 4)), (0, .ref (L 0 0)), (1, .int (nI i))]) hx hb dX6_holderAwaitedBy_12 rfl hl (by decide) rfl (fun ls hl => ?_)
  refine lv_iload_n hx hb dX6_holderAwaitedBy_13 rfl (lv_at hl 0 rfl) ?_
  refine lv_iconst (v := -1) hx hb dX6_holderAwaitedBy_14 (by decide) ?_
  refine lv_icmp_ne (tgt := 22) hx hb dX6_holderAwaitedBy_15 (by decide) (fun c15 => ?_) (fun c15 => ?_)
  · obtain ⟨w, hw, ew⟩ := (hW i hi).resolve_left c15
    refine lv_aload_n hx hb dX6_holderAwaitedBy_22 rfl (lv_at hl 1 rfl) ?_
    refine db_get hx hb hts hown hK hS 0 0 (bb_k 0 rfl) rfl db_c6 1 (by decide) wd_173 rfl dX6_holderAwaitedBy_23 ?_
    refine lv_iload_n hx hb dX6_holderAwaitedBy_26 rfl (lv_at hl 0 rfl) ?_
    refine db_ild hx hb hK hS 3 0 (bb_k 3 rfl) rfl w ew hw hn1 dX6_holderAwaitedBy_27 ?_
    exact hret _ _ _ _ _ _ hS (by rw [bb_hab, if_neg c15, ew, db_nIc hw hn1]) (rfl) dX6_holderAwaitedBy_28
  · refine lv_iconst (v := -1) hx hb dX6_holderAwaitedBy_18 (by decide) ?_
    refine lv_goto (tgt := 28) hx hb dX6_holderAwaitedBy_19 (by decide) ?_
    exact hret _ _ _ _ _ _ hS (by simp [bb_hab, c15]) (rfl) dX6_holderAwaitedBy_28

set_option maxHeartbeats 4000000 in
set_option maxRecDepth 100000 in
theorem c_X6_liveTasks (l : Launch) (Γ : db_G) (N : Nat → Nat) (L : Nat → Nat → Nat) (cnt : Nat) (X : db_X) (hN : bb_N N) : db_C l Γ yX6_liveTasks cX6_liveTasks 6 (some .int) (db_rm 0 0) [.ref (L 0 0)] L (bb_ok (N 0) cnt) (bb_cel Γ N L) X (some (.int (bb_liveTasks N X))) X := by
  have hn0 : N 0 < 2 ^ 31 := by have := hN.2.1; omega
  have hn1 : N 1 < 2 ^ 31 := by have := hN.2.2.1; omega
  have hn2 : N 2 < 2 ^ 31 := by have := hN.2.2.2.1; omega
  have hn3 : N 3 < 2 ^ 31 := by have := hN.2.2.2.2; omega
  refine db_introI (by decide +kernel) (Nat.le_of_ble_eq_true rfl) ?_
  intro p e s m args below meth c A Q ls hC hS hl hret
  have hC : db_Cx p s m args meth c Γ RX6 cX6_liveTasks 6 (some .int) := hC
  obtain ⟨hx, hb, hml, hr, hlocks, hown, hts, hK⟩ := id hC
  have hl : lv_has ls 6 [(0, .ref (L 0 0))] := hl
  refine lv_iconst (v := 0) hx hb dX6_liveTasks_0 (by decide) ?_
  refine lv_istore_n (lv' := [(1, .int 0), (0, .ref (L 0 0))]) hx hb dX6_liveTasks_1 rfl hl (by decide) rfl (fun ls hl => ?_)
  refine lv_aload_n hx hb dX6_liveTasks_2 rfl (lv_at hl 1 rfl) ?_
  refine db_get hx hb hts hown hK hS 0 0 (bb_k 0 rfl) rfl db_c6 0 (by decide) wd_172 rfl dX6_liveTasks_3 ?_
  refine lv_astore_n (lv' := [(2, .ref (L 11 0)), (1, .int 0), (0, .ref (L 0 0))]) hx hb dX6_liveTasks_6 rfl hl (by decide) rfl (fun ls hl => ?_)
  refine lv_aload_n hx hb dX6_liveTasks_7 rfl (lv_at hl 0 rfl) ?_
  refine db_alen hx hb hK hS 11 0 (bb_k 11 rfl) 2 rfl rfl dX6_liveTasks_8 ?_
  refine lv_istore_n (lv' := [(3, .int (nI (N 0))), (2, .ref (L 11 0)), (1, .int 0), (0, .ref (L 0 0))]) hx hb dX6_liveTasks_9 rfl hl (by decide) rfl (fun ls hl => ?_)
  refine lv_iconst (v := 0) hx hb dX6_liveTasks_10 (by decide) ?_
  refine lv_istore (lv' := [(4, .int 0), (3, .int (nI (N 0))), (2, .ref (L 11 0)), (1, .int 0), (0, .ref (L 0 0))]) hx hb dX6_liveTasks_11 hl (by decide) rfl (fun ls hl => ?_)
  have K13 : ∀ (q : Nat) (j : Nat) (acc : Int32) (hq : N 0 + 1 - j ≤ q) (hj0 : j ≤ N 0) (hacc : acc = db_cnt (fun j => decide (¬ X 1 j 1 = 0)) j) (H : Heap) (locs : List Loc) (hS : db_S Γ A s.heap L (bb_ok (N 0) cnt) (bb_cel Γ N L) X H locs) (ls : Array Slot) (hl : lv_has ls 6 [(0, .ref (L 0 0)), (2, .ref (L 11 0)), (3, .int (nI (N 0))), (4, .int (nI j)), (1, .int acc)]), W p l e (db_rm 0 0) s m args below meth c H locs 0 0 Q (F0 m 13 ls []) := by
    intro q13
    induction q13 with
    | zero =>
      intro j acc hq13 hj0 hacc
      exact absurd hq13 (by omega)
    | succ q13 ih13 =>
      intro j acc hq13 hj0 hacc H locs hS ls hl
      refine lv_iload hx hb dX6_liveTasks_13 (lv_at hl 3 rfl) ?_
      refine lv_iload_n hx hb dX6_liveTasks_15 rfl (lv_at hl 2 rfl) ?_
      refine lv_icmp_ge (tgt := 42) hx hb dX6_liveTasks_16 (by decide) (fun c16 => ?_) (fun c16 => ?_)
      · have hj : j = N 0 := by
          rcases Nat.lt_or_ge j (N 0) with q | q
          · exact absurd c16 (nI_ge q hn0)
          · omega
        subst hj
        refine lv_iload_n hx hb dX6_liveTasks_42 rfl (lv_at hl 4 rfl) ?_
        exact hret _ _ _ _ _ _ hS (by simp [bb_liveTasks, hacc]) (rfl) dX6_liveTasks_43
      · have hj : j < N 0 := by
          rcases Nat.lt_or_ge j (N 0) with q | q
          · exact q
          · exact absurd (nI_le q (by omega)) c16
        refine lv_aload_n hx hb dX6_liveTasks_19 rfl (lv_at hl 1 rfl) ?_
        refine lv_iload hx hb dX6_liveTasks_20 (lv_at hl 3 rfl) ?_
        refine db_ald hx hb hK hS 11 0 (bb_k 11 rfl) 2 rfl rfl j rfl hj hn0 rfl dX6_liveTasks_22 ?_
        refine lv_astore (lv' := [(5, .ref (L 1 j)), (0, .ref (L 0 0)), (2, .ref (L 11 0)), (3, .int (nI (N 0))), (4, .int (nI j)), (1, .int acc)]) hx hb dX6_liveTasks_23 hl (by decide) rfl (fun ls hl => ?_)
        refine lv_aload hx hb dX6_liveTasks_25 (lv_at hl 0 rfl) ?_
        refine db_getN hx hb hts hown hK hS 1 j (bb_kT hj) rfl db_c5 1 (by decide) wn_73 rfl dX6_liveTasks_27 ?_
        refine lv_if_eq (tgt := 36) hx hb dX6_liveTasks_30 (by decide) (fun c30 => ?_) (fun c30 => ?_)
        · refine lv_iinc (v := (nI (j + 1))) (lv' := [(4, .int (nI (j + 1))), (5, .ref (L 1 j)), (0, .ref (L 0 0)), (2, .ref (L 11 0)), (3, .int (nI (N 0))), (1, .int acc)]) hx hb dX6_liveTasks_36 hl (k := 4) rfl (nI_1 _) (by decide) rfl (fun ls hl => ?_)
          refine lv_goto (tgt := 13) hx hb dX6_liveTasks_39 (by decide) ?_
          exact ih13 (j + 1) acc (by omega) hj (by simp [db_cnt, hacc, c16, c30]) _ _ hS _ (lv_sub hl [2, 3, 4, 0, 5] rfl)
        · refine lv_iinc (v := (acc + 1)) (lv' := [(1, .int (acc + 1)), (5, .ref (L 1 j)), (0, .ref (L 0 0)), (2, .ref (L 11 0)), (3, .int (nI (N 0))), (4, .int (nI j))]) hx hb dX6_liveTasks_33 hl (k := 5) rfl rfl (by decide) rfl (fun ls hl => ?_)
          refine lv_iinc (v := (nI (j + 1))) (lv' := [(4, .int (nI (j + 1))), (1, .int (acc + 1)), (5, .ref (L 1 j)), (0, .ref (L 0 0)), (2, .ref (L 11 0)), (3, .int (nI (N 0)))]) hx hb dX6_liveTasks_36 hl (k := 5) rfl (nI_1 _) (by decide) rfl (fun ls hl => ?_)
          refine lv_goto (tgt := 13) hx hb dX6_liveTasks_39 (by decide) ?_
          exact ih13 (j + 1) (acc + 1) (by omega) hj (by simp [db_cnt, hacc, c16, c30]) _ _ hS _ (lv_sub hl [3, 4, 5, 0, 1] rfl)
  exact K13 _ 0 0 (Nat.le_refl _) (Nat.zero_le _) rfl _ _ hS _ (lv_sub hl [4, 2, 1, 0, 3] rfl)

set_option maxHeartbeats 4000000 in
set_option maxRecDepth 100000 in
theorem c_X6_pendingJobs (l : Launch) (Γ : db_G) (N : Nat → Nat) (L : Nat → Nat → Nat) (cnt : Nat) (X : db_X) (hN : bb_N N) : db_C l Γ yX6_pendingJobs cX6_pendingJobs 6 (some .int) (db_rm 0 0) [.ref (L 0 0)] L (bb_ok (N 0) cnt) (bb_cel Γ N L) X (some (.int (bb_pendingJobs N X))) X := by
  have hn0 : N 0 < 2 ^ 31 := by have := hN.2.1; omega
  have hn1 : N 1 < 2 ^ 31 := by have := hN.2.2.1; omega
  have hn2 : N 2 < 2 ^ 31 := by have := hN.2.2.2.1; omega
  have hn3 : N 3 < 2 ^ 31 := by have := hN.2.2.2.2; omega
  refine db_introI (by decide +kernel) (Nat.le_of_ble_eq_true rfl) ?_
  intro p e s m args below meth c A Q ls hC hS hl hret
  have hC : db_Cx p s m args meth c Γ RX6 cX6_pendingJobs 6 (some .int) := hC
  obtain ⟨hx, hb, hml, hr, hlocks, hown, hts, hK⟩ := id hC
  have hl : lv_has ls 6 [(0, .ref (L 0 0))] := hl
  refine lv_iconst (v := 0) hx hb dX6_pendingJobs_0 (by decide) ?_
  refine lv_istore_n (lv' := [(1, .int 0), (0, .ref (L 0 0))]) hx hb dX6_pendingJobs_1 rfl hl (by decide) rfl (fun ls hl => ?_)
  refine lv_aload_n hx hb dX6_pendingJobs_2 rfl (lv_at hl 1 rfl) ?_
  refine db_get hx hb hts hown hK hS 0 0 (bb_k 0 rfl) rfl db_c6 0 (by decide) wd_172 rfl dX6_pendingJobs_3 ?_
  refine lv_astore_n (lv' := [(2, .ref (L 11 0)), (1, .int 0), (0, .ref (L 0 0))]) hx hb dX6_pendingJobs_6 rfl hl (by decide) rfl (fun ls hl => ?_)
  refine lv_aload_n hx hb dX6_pendingJobs_7 rfl (lv_at hl 0 rfl) ?_
  refine db_alen hx hb hK hS 11 0 (bb_k 11 rfl) 2 rfl rfl dX6_pendingJobs_8 ?_
  refine lv_istore_n (lv' := [(3, .int (nI (N 0))), (2, .ref (L 11 0)), (1, .int 0), (0, .ref (L 0 0))]) hx hb dX6_pendingJobs_9 rfl hl (by decide) rfl (fun ls hl => ?_)
  refine lv_iconst (v := 0) hx hb dX6_pendingJobs_10 (by decide) ?_
  refine lv_istore (lv' := [(4, .int 0), (3, .int (nI (N 0))), (2, .ref (L 11 0)), (1, .int 0), (0, .ref (L 0 0))]) hx hb dX6_pendingJobs_11 hl (by decide) rfl (fun ls hl => ?_)
  have K13 : ∀ (q : Nat) (j : Nat) (acc : Int32) (hq : N 0 + 1 - j ≤ q) (hj0 : j ≤ N 0) (hacc : acc = db_cnt (fun j => decide (¬ X 2 j 0 = 0)) j) (H : Heap) (locs : List Loc) (hS : db_S Γ A s.heap L (bb_ok (N 0) cnt) (bb_cel Γ N L) X H locs) (ls : Array Slot) (hl : lv_has ls 6 [(0, .ref (L 0 0)), (2, .ref (L 11 0)), (3, .int (nI (N 0))), (4, .int (nI j)), (1, .int acc)]), W p l e (db_rm 0 0) s m args below meth c H locs 0 0 Q (F0 m 13 ls []) := by
    intro q13
    induction q13 with
    | zero =>
      intro j acc hq13 hj0 hacc
      exact absurd hq13 (by omega)
    | succ q13 ih13 =>
      intro j acc hq13 hj0 hacc H locs hS ls hl
      refine lv_iload hx hb dX6_pendingJobs_13 (lv_at hl 3 rfl) ?_
      refine lv_iload_n hx hb dX6_pendingJobs_15 rfl (lv_at hl 2 rfl) ?_
      refine lv_icmp_ge (tgt := 45) hx hb dX6_pendingJobs_16 (by decide) (fun c16 => ?_) (fun c16 => ?_)
      · have hj : j = N 0 := by
          rcases Nat.lt_or_ge j (N 0) with q | q
          · exact absurd c16 (nI_ge q hn0)
          · omega
        subst hj
        refine lv_iload_n hx hb dX6_pendingJobs_45 rfl (lv_at hl 4 rfl) ?_
        exact hret _ _ _ _ _ _ hS (by simp [bb_pendingJobs, hacc]) (rfl) dX6_pendingJobs_46
      · have hj : j < N 0 := by
          rcases Nat.lt_or_ge j (N 0) with q | q
          · exact q
          · exact absurd (nI_le q (by omega)) c16
        refine lv_aload_n hx hb dX6_pendingJobs_19 rfl (lv_at hl 1 rfl) ?_
        refine lv_iload hx hb dX6_pendingJobs_20 (lv_at hl 3 rfl) ?_
        refine db_ald hx hb hK hS 11 0 (bb_k 11 rfl) 2 rfl rfl j rfl hj hn0 rfl dX6_pendingJobs_22 ?_
        refine lv_astore (lv' := [(5, .ref (L 1 j)), (0, .ref (L 0 0)), (2, .ref (L 11 0)), (3, .int (nI (N 0))), (4, .int (nI j)), (1, .int acc)]) hx hb dX6_pendingJobs_23 hl (by decide) rfl (fun ls hl => ?_)
        refine lv_aload hx hb dX6_pendingJobs_25 (lv_at hl 0 rfl) ?_
        refine db_getN hx hb hts hown hK hS 1 j (bb_kT hj) rfl db_c5 0 (by decide) wn_71 rfl dX6_pendingJobs_27 ?_
        refine db_getN hx hb hts hown hK hS 2 j (bb_kJ hj) rfl db_c0 0 (by decide) wn_42 rfl dX6_pendingJobs_30 ?_
        refine lv_if_eq (tgt := 39) hx hb dX6_pendingJobs_33 (by decide) (fun c33 => ?_) (fun c33 => ?_)
        · refine lv_iinc (v := (nI (j + 1))) (lv' := [(4, .int (nI (j + 1))), (5, .ref (L 1 j)), (0, .ref (L 0 0)), (2, .ref (L 11 0)), (3, .int (nI (N 0))), (1, .int acc)]) hx hb dX6_pendingJobs_39 hl (k := 4) rfl (nI_1 _) (by decide) rfl (fun ls hl => ?_)
          refine lv_goto (tgt := 13) hx hb dX6_pendingJobs_42 (by decide) ?_
          exact ih13 (j + 1) acc (by omega) hj (by simp [db_cnt, hacc, c16, c33]) _ _ hS _ (lv_sub hl [2, 3, 4, 0, 5] rfl)
        · refine lv_iinc (v := (acc + 1)) (lv' := [(1, .int (acc + 1)), (5, .ref (L 1 j)), (0, .ref (L 0 0)), (2, .ref (L 11 0)), (3, .int (nI (N 0))), (4, .int (nI j))]) hx hb dX6_pendingJobs_36 hl (k := 5) rfl rfl (by decide) rfl (fun ls hl => ?_)
          refine lv_iinc (v := (nI (j + 1))) (lv' := [(4, .int (nI (j + 1))), (1, .int (acc + 1)), (5, .ref (L 1 j)), (0, .ref (L 0 0)), (2, .ref (L 11 0)), (3, .int (nI (N 0)))]) hx hb dX6_pendingJobs_39 hl (k := 5) rfl (nI_1 _) (by decide) rfl (fun ls hl => ?_)
          refine lv_goto (tgt := 13) hx hb dX6_pendingJobs_42 (by decide) ?_
          exact ih13 (j + 1) (acc + 1) (by omega) hj (by simp [db_cnt, hacc, c16, c33]) _ _ hS _ (lv_sub hl [3, 4, 5, 0, 1] rfl)
  exact K13 _ 0 0 (Nat.le_refl _) (Nat.zero_le _) rfl _ _ hS _ (lv_sub hl [4, 2, 1, 0, 3] rfl)

set_option maxHeartbeats 4000000 in
set_option maxRecDepth 100000 in
theorem c_X6_heldLocks (l : Launch) (Γ : db_G) (N : Nat → Nat) (L : Nat → Nat → Nat) (cnt : Nat) (X : db_X) (hN : bb_N N) : db_C l Γ yX6_heldLocks cX6_heldLocks 6 (some .int) (db_rm 0 0) [.ref (L 0 0)] L (bb_ok (N 0) cnt) (bb_cel Γ N L) X (some (.int (bb_heldLocks N X))) X := by
  have hn0 : N 0 < 2 ^ 31 := by have := hN.2.1; omega
  have hn1 : N 1 < 2 ^ 31 := by have := hN.2.2.1; omega
  have hn2 : N 2 < 2 ^ 31 := by have := hN.2.2.2.1; omega
  have hn3 : N 3 < 2 ^ 31 := by have := hN.2.2.2.2; omega
  refine db_introI (by decide +kernel) (Nat.le_of_ble_eq_true rfl) ?_
  intro p e s m args below meth c A Q ls hC hS hl hret
  have hC : db_Cx p s m args meth c Γ RX6 cX6_heldLocks 6 (some .int) := hC
  obtain ⟨hx, hb, hml, hr, hlocks, hown, hts, hK⟩ := id hC
  have hl : lv_has ls 6 [(0, .ref (L 0 0))] := hl
  refine lv_iconst (v := 0) hx hb dX6_heldLocks_0 (by decide) ?_
  refine lv_istore_n (lv' := [(1, .int 0), (0, .ref (L 0 0))]) hx hb dX6_heldLocks_1 rfl hl (by decide) rfl (fun ls hl => ?_)
  refine lv_aload_n hx hb dX6_heldLocks_2 rfl (lv_at hl 1 rfl) ?_
  refine db_get hx hb hts hown hK hS 0 0 (bb_k 0 rfl) rfl db_c6 1 (by decide) wd_173 rfl dX6_heldLocks_3 ?_
  refine lv_astore_n (lv' := [(2, .ref (L 3 0)), (1, .int 0), (0, .ref (L 0 0))]) hx hb dX6_heldLocks_6 rfl hl (by decide) rfl (fun ls hl => ?_)
  refine lv_aload_n hx hb dX6_heldLocks_7 rfl (lv_at hl 0 rfl) ?_
  refine db_alen hx hb hK hS 3 0 (bb_k 3 rfl) 0 rfl rfl dX6_heldLocks_8 ?_
  refine lv_istore_n (lv' := [(3, .int (nI (N 1))), (2, .ref (L 3 0)), (1, .int 0), (0, .ref (L 0 0))]) hx hb dX6_heldLocks_9 rfl hl (by decide) rfl (fun ls hl => ?_)
  refine lv_iconst (v := 0) hx hb dX6_heldLocks_10 (by decide) ?_
  refine lv_istore (lv' := [(4, .int 0), (3, .int (nI (N 1))), (2, .ref (L 3 0)), (1, .int 0), (0, .ref (L 0 0))]) hx hb dX6_heldLocks_11 hl (by decide) rfl (fun ls hl => ?_)
  have K13 : ∀ (q : Nat) (j : Nat) (acc : Int32) (hq : N 1 + 1 - j ≤ q) (hj0 : j ≤ N 1) (hacc : acc = db_cnt (fun j => decide (¬ X 3 0 j = -1)) j) (H : Heap) (locs : List Loc) (hS : db_S Γ A s.heap L (bb_ok (N 0) cnt) (bb_cel Γ N L) X H locs) (ls : Array Slot) (hl : lv_has ls 6 [(0, .ref (L 0 0)), (2, .ref (L 3 0)), (3, .int (nI (N 1))), (4, .int (nI j)), (1, .int acc)]), W p l e (db_rm 0 0) s m args below meth c H locs 0 0 Q (F0 m 13 ls []) := by
    intro q13
    induction q13 with
    | zero =>
      intro j acc hq13 hj0 hacc
      exact absurd hq13 (by omega)
    | succ q13 ih13 =>
      intro j acc hq13 hj0 hacc H locs hS ls hl
      refine lv_iload hx hb dX6_heldLocks_13 (lv_at hl 3 rfl) ?_
      refine lv_iload_n hx hb dX6_heldLocks_15 rfl (lv_at hl 2 rfl) ?_
      refine lv_icmp_ge (tgt := 40) hx hb dX6_heldLocks_16 (by decide) (fun c16 => ?_) (fun c16 => ?_)
      · have hj : j = N 1 := by
          rcases Nat.lt_or_ge j (N 1) with q | q
          · exact absurd c16 (nI_ge q hn1)
          · omega
        subst hj
        refine lv_iload_n hx hb dX6_heldLocks_40 rfl (lv_at hl 4 rfl) ?_
        exact hret _ _ _ _ _ _ hS (by simp [bb_heldLocks, hacc]) (rfl) dX6_heldLocks_41
      · have hj : j < N 1 := by
          rcases Nat.lt_or_ge j (N 1) with q | q
          · exact q
          · exact absurd (nI_le q (by omega)) c16
        refine lv_aload_n hx hb dX6_heldLocks_19 rfl (lv_at hl 1 rfl) ?_
        refine lv_iload hx hb dX6_heldLocks_20 (lv_at hl 3 rfl) ?_
        refine db_ild hx hb hK hS 3 0 (bb_k 3 rfl) rfl j rfl hj hn1 dX6_heldLocks_22 ?_
        refine lv_istore (lv' := [(5, .int (X 3 0 j)), (0, .ref (L 0 0)), (2, .ref (L 3 0)), (3, .int (nI (N 1))), (4, .int (nI j)), (1, .int acc)]) hx hb dX6_heldLocks_23 hl (by decide) rfl (fun ls hl => ?_)
        refine lv_iload hx hb dX6_heldLocks_25 (lv_at hl 0 rfl) ?_
        refine lv_iconst (v := -1) hx hb dX6_heldLocks_27 (by decide) ?_
        refine lv_icmp_eq (tgt := 34) hx hb dX6_heldLocks_28 (by decide) (fun c28 => ?_) (fun c28 => ?_)
        · refine lv_iinc (v := (nI (j + 1))) (lv' := [(4, .int (nI (j + 1))), (5, .int (X 3 0 j)), (0, .ref (L 0 0)), (2, .ref (L 3 0)), (3, .int (nI (N 1))), (1, .int acc)]) hx hb dX6_heldLocks_34 hl (k := 4) rfl (nI_1 _) (by decide) rfl (fun ls hl => ?_)
          refine lv_goto (tgt := 13) hx hb dX6_heldLocks_37 (by decide) ?_
          exact ih13 (j + 1) acc (by omega) hj (by simp [db_cnt, hacc, c16, c28]) _ _ hS _ (lv_sub hl [2, 3, 4, 0, 5] rfl)
        · refine lv_iinc (v := (acc + 1)) (lv' := [(1, .int (acc + 1)), (5, .int (X 3 0 j)), (0, .ref (L 0 0)), (2, .ref (L 3 0)), (3, .int (nI (N 1))), (4, .int (nI j))]) hx hb dX6_heldLocks_31 hl (k := 5) rfl rfl (by decide) rfl (fun ls hl => ?_)
          refine lv_iinc (v := (nI (j + 1))) (lv' := [(4, .int (nI (j + 1))), (1, .int (acc + 1)), (5, .int (X 3 0 j)), (0, .ref (L 0 0)), (2, .ref (L 3 0)), (3, .int (nI (N 1)))]) hx hb dX6_heldLocks_34 hl (k := 5) rfl (nI_1 _) (by decide) rfl (fun ls hl => ?_)
          refine lv_goto (tgt := 13) hx hb dX6_heldLocks_37 (by decide) ?_
          exact ih13 (j + 1) (acc + 1) (by omega) hj (by simp [db_cnt, hacc, c16, c28]) _ _ hS _ (lv_sub hl [3, 4, 5, 0, 1] rfl)
  exact K13 _ 0 0 (Nat.le_refl _) (Nat.zero_le _) rfl _ _ hS _ (lv_sub hl [4, 2, 1, 0, 3] rfl)
