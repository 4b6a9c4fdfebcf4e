set_option maxHeartbeats 4000000 in
set_option maxRecDepth 100000 in
theorem c_X6_waiters (l : Launch) (Γ : db_G) (N : Nat → Nat) (L : Nat → Nat → Nat) (cnt : Nat) (X : db_X) (hN : bb_N N) (t : Int32) : db_C l Γ yX6_waiters cX6_waiters 7 (some .int) (db_rm 1 21) [.ref (L 0 0), .int t] L (bb_ok (N 0) cnt) (bb_cel Γ N L) X (some (.int (bb_waiters N X t))) X := by
  have hn0 : N 0 < 2 ^ 31 := by have := hN.2.1; omega
  have hn1 : N 1 < 2 ^ 31 := by have := hN.2.2.1; omega
  have hn2 : N 2 < 2 ^ 31 := by have := hN.2.2.2.1; omega
  have hn3 : N 3 < 2 ^ 31 := by have := hN.2.2.2.2; omega
  refine db_introI (by decide +kernel) (Nat.le_of_ble_eq_true rfl) ?_
  intro p e s m args below meth c A Q ls hC hS hl hret
  have hC : db_Cx p s m args meth c Γ RX6 cX6_waiters 7 (some .int) := hC
  obtain ⟨hx, hb, hml, hr, hlocks, hown, hts, hK⟩ := id hC
  have hl : lv_has ls 7 [(0, .ref (L 0 0)), (1, .int t)] := hl
  refine lv_aload_n hx hb dX6_waiters_0 rfl (lv_at hl 0 rfl) ?_
  refine lv_iload_n hx hb dX6_waiters_1 rfl (lv_at hl 1 rfl) ?_
  refine db_cV (As := [.int t]) (rest := []) (st1 := [.int (bb_isLock N t)]) hC hS 0 0 (bb_k 0 rfl) rfl db_c6 (c_X6_isLock l Γ N L cnt X hN t ) (cw_X6_isLock (Nat.le_of_ble_eq_true rfl) (Nat.le_of_ble_eq_true rfl)) wd_213 wd_215 ws_2 rfl hl.1 rfl (Nat.le_of_ble_eq_true rfl) dX6_waiters_2 ⟨Nat.le_of_ble_eq_true rfl, Nat.le_of_ble_eq_true rfl⟩ rfl (fun H locs hS => ?_)
  refine lv_if_ne (tgt := 10) hx hb dX6_waiters_5 (by decide) (fun c5 => ?_) (fun c5 => ?_)
  · refine lv_iconst (v := 0) hx hb dX6_waiters_10 (by decide) ?_
    refine lv_istore_n (lv' := [(2, .int 0), (0, .ref (L 0 0)), (1, .int t)]) hx hb dX6_waiters_11 rfl hl (by decide) rfl (fun ls hl => ?_)
    refine lv_aload_n hx hb dX6_waiters_12 rfl (lv_at hl 1 rfl) ?_
    refine db_get hx hb hts hown hK hS 0 0 (bb_k 0 rfl) rfl db_c6 0 (by decide) wd_172 rfl dX6_waiters_13 ?_
    refine lv_astore_n (lv' := [(3, .ref (L 11 0)), (2, .int 0), (0, .ref (L 0 0)), (1, .int t)]) hx hb dX6_waiters_16 rfl hl (by decide) rfl (fun ls hl => ?_)
    refine lv_aload_n hx hb dX6_waiters_17 rfl (lv_at hl 0 rfl) ?_
    refine db_alen hx hb hK hS 11 0 (bb_k 11 rfl) 2 rfl rfl dX6_waiters_18 ?_
    refine lv_istore (lv' := [(4, .int (nI (N 0))), (3, .ref (L 11 0)), (2, .int 0), (0, .ref (L 0 0)), (1, .int t)]) hx hb dX6_waiters_19 hl (by decide) rfl (fun ls hl => ?_)
    refine lv_iconst (v := 0) hx hb dX6_waiters_21 (by decide) ?_
    refine lv_istore (lv' := [(5, .int 0), (4, .int (nI (N 0))), (3, .ref (L 11 0)), (2, .int 0), (0, .ref (L 0 0)), (1, .int t)]) hx hb dX6_waiters_22 hl (by decide) rfl (fun ls hl => ?_)
    have K24 : ∀ (q : Nat) (j : Nat) (acc : Int32) (hq : N 0 + 1 - j ≤ q) (hj0 : j ≤ N 0) (hacc : acc = db_cnt (fun j => decide (¬ X 2 j 0 = 0 ∧ X 2 j 4 = t)) j) (H : Heap) (locs : List Loc) (hS : db_S Γ A s.heap L (bb_ok (N 0) cnt) (bb_cel Γ N L) X H locs) (ls : Array Slot) (hl : lv_has ls 7 [(0, .ref (L 0 0)), (1, .int t), (3, .ref (L 11 0)), (4, .int (nI (N 0))), (5, .int (nI j)), (2, .int acc)]), W p l e (db_rm 1 21) s m args below meth c H locs 0 0 Q (F0 m 24 ls []) := by
      intro q24
      induction q24 with
      | zero =>
        intro j acc hq24 hj0 hacc
        exact absurd hq24 (by omega)
      | succ q24 ih24 =>
        intro j acc hq24 hj0 hacc H locs hS ls hl
        refine lv_iload hx hb dX6_waiters_24 (lv_at hl 4 rfl) ?_
        refine lv_iload hx hb dX6_waiters_26 (lv_at hl 3 rfl) ?_
        refine lv_icmp_ge (tgt := 69) hx hb dX6_waiters_28 (by decide) (fun c28 => ?_) (fun c28 => ?_)
        · have hj : j = N 0 := by
            rcases Nat.lt_or_ge j (N 0) with q | q
            · exact absurd c28 (nI_ge q hn0)
            · omega
          subst hj
          refine lv_iload_n hx hb dX6_waiters_69 rfl (lv_at hl 5 rfl) ?_
          exact hret _ _ _ _ _ _ hS (by rw [bb_waiters, if_neg c5]; exact hacc) (rfl) dX6_waiters_70
        · have hj : j < N 0 := by
            rcases Nat.lt_or_ge j (N 0) with q | q
            · exact q
            · exact absurd (nI_le q (by omega)) c28
          refine lv_aload_n hx hb dX6_waiters_31 rfl (lv_at hl 2 rfl) ?_
          refine lv_iload hx hb dX6_waiters_32 (lv_at hl 4 rfl) ?_
          refine db_ald hx hb hK hS 11 0 (bb_k 11 rfl) 2 rfl rfl j rfl hj hn0 rfl dX6_waiters_34 ?_
          refine lv_astore (lv' := [(6, .ref (L 1 j)), (0, .ref (L 0 0)), (1, .int t), (3, .ref (L 11 0)), (4, .int (nI (N 0))), (5, .int (nI j)), (2, .int acc)]) hx hb dX6_waiters_35 hl (by decide) rfl (fun ls hl => ?_)
          refine lv_aload hx hb dX6_waiters_37 (lv_at hl 0 rfl) ?_
          refine db_getN hx hb hts hown hK hS 1 j (bb_kT hj) rfl db_c5 0 (by decide) wn_71 rfl dX6_waiters_39 ?_
          refine db_getN hx hb hts hown hK hS 2 j (bb_kJ hj) rfl db_c0 0 (by decide) wn_42 rfl dX6_waiters_42 ?_
          refine lv_if_eq (tgt := 63) hx hb dX6_waiters_45 (by decide) (fun c45 => ?_) (fun c45 => ?_)
          · refine lv_iinc (v := (nI (j + 1))) (lv' := [(5, .int (nI (j + 1))), (6, .ref (L 1 j)), (0, .ref (L 0 0)), (1, .int t), (3, .ref (L 11 0)), (4, .int (nI (N 0))), (2, .int acc)]) hx hb dX6_waiters_63 hl (k := 5) rfl (nI_1 _) (by decide) rfl (fun ls hl => ?_)
            refine lv_goto (tgt := 24) hx hb dX6_waiters_66 (by decide) ?_
            exact ih24 (j + 1) acc (by omega) hj (by simp [db_cnt, hacc, c28, c45]) _ _ hS _ (lv_sub hl [2, 3, 4, 5, 0, 6] rfl)
          · refine lv_aload hx hb dX6_waiters_48 (lv_at hl 0 rfl) ?_
            refine db_getN hx hb hts hown hK hS 1 j (bb_kT hj) rfl db_c5 0 (by decide) wn_71 rfl dX6_waiters_50 ?_
            refine db_getN hx hb hts hown hK hS 2 j (bb_kJ hj) rfl db_c0 4 (by decide) wn_51 rfl dX6_waiters_53 ?_
            refine lv_iload_n hx hb dX6_waiters_56 rfl (lv_at hl 2 rfl) ?_
            refine lv_icmp_ne (tgt := 63) hx hb dX6_waiters_57 (by decide) (fun c57 => ?_) (fun c57 => ?_)
            · refine lv_iinc (v := (nI (j + 1))) (lv' := [(5, .int (nI (j + 1))), (6, .ref (L 1 j)), (0, .ref (L 0 0)), (1, .int t), (3, .ref (L 11 0)), (4, .int (nI (N 0))), (2, .int acc)]) hx hb dX6_waiters_63 hl (k := 5) rfl (nI_1 _) (by decide) rfl (fun ls hl => ?_)
              refine lv_goto (tgt := 24) hx hb dX6_waiters_66 (by decide) ?_
              exact ih24 (j + 1) acc (by omega) hj (by simp [db_cnt, hacc, c28, c45, c57]) _ _ hS _ (lv_sub hl [2, 3, 4, 5, 0, 6] rfl)
            · refine lv_iinc (v := (acc + 1)) (lv' := [(2, .int (acc + 1)), (6, .ref (L 1 j)), (0, .ref (L 0 0)), (1, .int t), (3, .ref (L 11 0)), (4, .int (nI (N 0))), (5, .int (nI j))]) hx hb dX6_waiters_60 hl (k := 6) rfl rfl (by decide) rfl (fun ls hl => ?_)
              refine lv_iinc (v := (nI (j + 1))) (lv' := [(5, .int (nI (j + 1))), (2, .int (acc + 1)), (6, .ref (L 1 j)), (0, .ref (L 0 0)), (1, .int t), (3, .ref (L 11 0)), (4, .int (nI (N 0)))]) hx hb dX6_waiters_63 hl (k := 6) rfl (nI_1 _) (by decide) rfl (fun ls hl => ?_)
              refine lv_goto (tgt := 24) hx hb dX6_waiters_66 (by decide) ?_
              exact ih24 (j + 1) (acc + 1) (by omega) hj (by simp [db_cnt, hacc, c28, c45, c57]) _ _ hS _ (lv_sub hl [3, 4, 5, 6, 0, 1] rfl)
    exact K24 _ 0 0 (Nat.le_refl _) (Nat.zero_le _) rfl _ _ hS _ (lv_sub hl [4, 5, 2, 1, 0, 3] rfl)
  · refine lv_iconst (v := 0) hx hb dX6_waiters_8 (by decide) ?_
    exact hret _ _ _ _ _ _ hS (by simp [bb_waiters, c5]) (rfl) dX6_waiters_9
