set_option maxHeartbeats 4000000 in
set_option maxRecDepth 100000 in
theorem c_X7_isLive (l : Launch) (Γ : db_G) (N : Nat → Nat) (L : Nat → Nat → Nat) (X : db_X) (hN : bb_N N) (t : Int32) : db_C l Γ yX7_isLive cX7_isLive 2 (some .boolean) (db_rm 0 0) [.ref (L 0 0), .int t] L mm_ok (mm_cel Γ N L) X (some (.int (mm_isLive N X t))) X := by
  have hn0 : N 0 < 2 ^ 31 := by have := hN.2.1; omega
  have hn1 : N 1 < 2 ^ 31 := by have := hN.2.2.1; omega
  have hn2 : N 2 < 2 ^ 31 := by have := hN.2.2.2.1; omega
  have hn3 : N 3 < 2 ^ 31 := by have := hN.2.2.2.2; omega
  refine db_introZ (by decide +kernel) (Nat.le_of_ble_eq_true rfl) (db_01 (Or.inl rfl) (db_01 (Or.inl rfl) (db_01 (Or.inl rfl) (Or.inr rfl)))) ?_
  intro p e s m args below meth c A Q ls hC hS hl hret
  have hC : db_Cx p s m args meth c Γ RX7 cX7_isLive 2 (some .boolean) := hC
  obtain ⟨hx, hb, hml, hr, hlocks, hown, hts, hK⟩ := id hC
  have hl : lv_has ls 2 [(0, .ref (L 0 0)), (1, .int t)] := hl
  refine lv_iload_n hx hb dX7_isLive_0 rfl (lv_at hl 1 rfl) ?_
  refine lv_if_lt (tgt := 25) hx hb dX7_isLive_1 (by decide) (fun c1 => ?_) (fun c1 => ?_)
  · refine lv_iconst (v := 0) hx hb dX7_isLive_25 (by decide) ?_
    exact hret _ _ _ _ _ _ hS (by simp [mm_isLive, c1]) (rfl) dX7_isLive_26
  · refine lv_iload_n hx hb dX7_isLive_4 rfl (lv_at hl 1 rfl) ?_
    refine lv_aload_n hx hb dX7_isLive_5 rfl (lv_at hl 0 rfl) ?_
    refine db_get hx hb hts hown hK hS 0 0 (mm_k 0 rfl) rfl db_c7 0 (by decide) wd_441 rfl dX7_isLive_6 ?_
    refine lv_icmp_ge (tgt := 25) hx hb dX7_isLive_9 (by decide) (fun c9 => ?_) (fun c9 => ?_)
    · refine lv_iconst (v := 0) hx hb dX7_isLive_25 (by decide) ?_
      exact hret _ _ _ _ _ _ hS (by simp [mm_isLive, c1, c9]) (rfl) dX7_isLive_26
    · obtain ⟨j, hj, rfl⟩ := db_ix hn0 c1 c9
      refine lv_aload_n hx hb dX7_isLive_12 rfl (lv_at hl 0 rfl) ?_
      refine db_get hx hb hts hown hK hS 0 0 (mm_k 0 rfl) rfl db_c7 6 (by decide) wd_447 rfl dX7_isLive_13 ?_
      refine lv_iload_n hx hb dX7_isLive_16 rfl (lv_at hl 1 rfl) ?_
      refine db_zld hx hb hK hS 6 0 (mm_k 6 rfl) rfl j rfl (Nat.lt_of_lt_of_le hj hN.2.1) (by decide) dX7_isLive_17 ?_
      refine lv_if_eq (tgt := 25) hx hb dX7_isLive_18 (by decide) (fun c18 => ?_) (fun c18 => ?_)
      · refine lv_iconst (v := 0) hx hb dX7_isLive_25 (by decide) ?_
        exact hret _ _ _ _ _ _ hS (by simp [mm_isLive, c1, c9, c18, db_nIc hj hn0]) (rfl) dX7_isLive_26
      · refine lv_iconst (v := 1) hx hb dX7_isLive_21 (by decide) ?_
        refine lv_goto (tgt := 26) hx hb dX7_isLive_22 (by decide) ?_
        exact hret _ _ _ _ _ _ hS (by simp [mm_isLive, c1, c9, c18, db_nIc hj hn0]) (rfl) dX7_isLive_26

set_option maxHeartbeats 4000000 in
set_option maxRecDepth 100000 in
theorem c_X7_isPending (l : Launch) (Γ : db_G) (N : Nat → Nat) (L : Nat → Nat → Nat) (X : db_X) (hN : bb_N N) (t : Int32) : db_C l Γ yX7_isPending cX7_isPending 2 (some .boolean) (db_rm 1 21) [.ref (L 0 0), .int t] L mm_ok (mm_cel Γ N L) X (some (.int (mm_isP N X t))) X := by
  have hn0 : N 0 < 2 ^ 31 := by have := hN.2.1; omega
  have hn1 : N 1 < 2 ^ 31 := by have := hN.2.2.1; omega
  have hn2 : N 2 < 2 ^ 31 := by have := hN.2.2.2.1; omega
  have hn3 : N 3 < 2 ^ 31 := by have := hN.2.2.2.2; omega
  refine db_introZ (by decide +kernel) (Nat.le_of_ble_eq_true rfl) (db_01 (Or.inl rfl) (db_01 (Or.inl rfl) (Or.inr rfl))) ?_
  intro p e s m args below meth c A Q ls hC hS hl hret
  have hC : db_Cx p s m args meth c Γ RX7 cX7_isPending 2 (some .boolean) := hC
  obtain ⟨hx, hb, hml, hr, hlocks, hown, hts, hK⟩ := id hC
  have hl : lv_has ls 2 [(0, .ref (L 0 0)), (1, .int t)] := hl
  refine lv_aload_n hx hb dX7_isPending_0 rfl (lv_at hl 0 rfl) ?_
  refine lv_iload_n hx hb dX7_isPending_1 rfl (lv_at hl 1 rfl) ?_
  refine db_cV (As := [.int t]) (rest := []) (st1 := [.int (mm_isLive N X t)]) hC hS 0 0 (mm_k 0 rfl) rfl db_c7 (c_X7_isLive l Γ N L X hN t ) (cw_X7_isLive (Nat.le_of_ble_eq_true rfl) (Nat.le_of_ble_eq_true rfl)) wd_559 wd_561 ws_34 rfl hl.1 rfl (Nat.le_of_ble_eq_true rfl) dX7_isPending_2 ⟨Nat.le_of_ble_eq_true rfl, Nat.le_of_ble_eq_true rfl⟩ rfl (fun H locs hS => ?_)
  refine lv_if_eq (tgt := 21) hx hb dX7_isPending_5 (by decide) (fun c5 => ?_) (fun c5 => ?_)
  · refine lv_iconst (v := 0) hx hb dX7_isPending_21 (by decide) ?_
    exact hret _ _ _ _ _ _ hS (by simp [mm_isP, c5]) (rfl) dX7_isPending_22
  · obtain ⟨j, hj, rfl⟩ := mm_isLive_ix hn0 c5
    refine lv_aload_n hx hb dX7_isPending_8 rfl (lv_at hl 0 rfl) ?_
    refine db_get hx hb hts hown hK hS 0 0 (mm_k 0 rfl) rfl db_c7 17 (by decide) wd_458 rfl dX7_isPending_9 ?_
    refine lv_iload_n hx hb dX7_isPending_12 rfl (lv_at hl 1 rfl) ?_
    refine db_zld hx hb hK hS 17 0 (mm_k 17 rfl) rfl j rfl (Nat.lt_of_lt_of_le hj hN.2.1) (by decide) dX7_isPending_13 ?_
    refine lv_if_eq (tgt := 21) hx hb dX7_isPending_14 (by decide) (fun c14 => ?_) (fun c14 => ?_)
    · refine lv_iconst (v := 0) hx hb dX7_isPending_21 (by decide) ?_
      exact hret _ _ _ _ _ _ hS (by simp [mm_isP, c5, c14, db_nIc hj hn0]) (rfl) dX7_isPending_22
    · refine lv_iconst (v := 1) hx hb dX7_isPending_17 (by decide) ?_
      refine lv_goto (tgt := 22) hx hb dX7_isPending_18 (by decide) ?_
      exact hret _ _ _ _ _ _ hS (by simp [mm_isP, c5, c14, db_nIc hj hn0]) (rfl) dX7_isPending_22

set_option maxHeartbeats 4000000 in
set_option maxRecDepth 100000 in
theorem c_X7_isLock (l : Launch) (Γ : db_G) (N : Nat → Nat) (L : Nat → Nat → Nat) (X : db_X) (hN : bb_N N) (t : Int32) : db_C l Γ yX7_isLock cX7_isLock 2 (some .boolean) (db_rm 0 0) [.ref (L 0 0), .int t] L mm_ok (mm_cel Γ N L) X (some (.int (bb_isLock N t))) X := by
  have hn0 : N 0 < 2 ^ 31 := by have := hN.2.1; omega
  have hn1 : N 1 < 2 ^ 31 := by have := hN.2.2.1; omega
  have hn2 : N 2 < 2 ^ 31 := by have := hN.2.2.2.1; omega
  have hn3 : N 3 < 2 ^ 31 := by have := hN.2.2.2.2; omega
  refine db_introZ (by decide +kernel) (Nat.le_of_ble_eq_true rfl) (db_01 (Or.inl rfl) (db_01 (Or.inl rfl) (Or.inr rfl))) ?_
  intro p e s m args below meth c A Q ls hC hS hl hret
  have hC : db_Cx p s m args meth c Γ RX7 cX7_isLock 2 (some .boolean) := hC
  obtain ⟨hx, hb, hml, hr, hlocks, hown, hts, hK⟩ := id hC
  have hl : lv_has ls 2 [(0, .ref (L 0 0)), (1, .int t)] := hl
  refine lv_iload_n hx hb dX7_isLock_0 rfl (lv_at hl 1 rfl) ?_
  refine lv_if_lt (tgt := 16) hx hb dX7_isLock_1 (by decide) (fun c1 => ?_) (fun c1 => ?_)
  · refine lv_iconst (v := 0) hx hb dX7_isLock_16 (by decide) ?_
    exact hret _ _ _ _ _ _ hS (by simp [bb_isLock, c1]) (rfl) dX7_isLock_17
  · refine lv_iload_n hx hb dX7_isLock_4 rfl (lv_at hl 1 rfl) ?_
    refine lv_aload_n hx hb dX7_isLock_5 rfl (lv_at hl 0 rfl) ?_
    refine db_get hx hb hts hown hK hS 0 0 (mm_k 0 rfl) rfl db_c7 1 (by decide) wd_442 rfl dX7_isLock_6 ?_
    refine lv_icmp_ge (tgt := 16) hx hb dX7_isLock_9 (by decide) (fun c9 => ?_) (fun c9 => ?_)
    · refine lv_iconst (v := 0) hx hb dX7_isLock_16 (by decide) ?_
      exact hret _ _ _ _ _ _ hS (by simp [bb_isLock, c1, c9]) (rfl) dX7_isLock_17
    · refine lv_iconst (v := 1) hx hb dX7_isLock_12 (by decide) ?_
      refine lv_goto (tgt := 17) hx hb dX7_isLock_13 (by decide) ?_
      exact hret _ _ _ _ _ _ hS (by simp [bb_isLock, c1, c9]) (rfl) dX7_isLock_17

set_option maxHeartbeats 4000000 in
set_option maxRecDepth 100000 in
theorem c_X7_reckons (l : Launch) (Γ : db_G) (N : Nat → Nat) (L : Nat → Nat → Nat) (X : db_X) (hN : bb_N N) (sz : Nat) (hI : mm_I N sz X) : db_C l Γ yX7_reckons cX7_reckons 4 (none) (db_rm 2 42) [.ref (L 0 0)] L mm_ok (mm_cel Γ N L) X none (mm_rk N X) := by
  have hn0 : N 0 < 2 ^ 31 := by have := hN.2.1; omega
  have hn1 : N 1 < 2 ^ 31 := by have := hN.2.2.1; omega
  have hn2 : N 2 < 2 ^ 31 := by have := hN.2.2.2.1; omega
  have hn3 : N 3 < 2 ^ 31 := by have := hN.2.2.2.2; omega
  refine db_introV (by decide +kernel) (Nat.le_of_ble_eq_true rfl) ?_
  intro p e s m args below meth c A Q ls hC hS hl hret
  have hC : db_Cx p s m args meth c Γ RX7 cX7_reckons 4 (none) := hC
  obtain ⟨hx, hb, hml, hr, hlocks, hown, hts, hK⟩ := id hC
  have hl : lv_has ls 4 [(0, .ref (L 0 0))] := hl
  refine lv_iconst (v := 0) hx hb dX7_reckons_0 (by decide) ?_
  refine lv_istore_n (lv' := [(1, .int 0), (0, .ref (L 0 0))]) hx hb dX7_reckons_1 rfl hl (by decide) rfl (fun ls hl => ?_)
  have K2 : ∀ (q : Nat) (j : Nat) (Xa : db_X) (hq : N 0 + 1 - j ≤ q) (hj0 : j ≤ N 0) (hsa : mm_s N Xa X) (hFa : ∀ f, f < j → Xa 29 0 f = X 19 0 f) (H : Heap) (locs : List Loc) (hS : db_S Γ A s.heap L mm_ok (mm_cel Γ N L) Xa H locs) (ls : Array Slot) (hl : lv_has ls 4 [(0, .ref (L 0 0)), (1, .int (nI j))]), W p l e (db_rm 2 42) s m args below meth c H locs 0 0 Q (F0 m 2 ls []) := by
    intro q2
    induction q2 with
    | zero =>
      intro j Xa hq2 hj0 hsa hFa
      exact absurd hq2 (by omega)
    | succ q2 ih2 =>
      intro j Xa hq2 hj0 hsa hFa H locs hS ls hl
      refine lv_iload_n hx hb dX7_reckons_2 rfl (lv_at hl 1 rfl) ?_
      refine lv_aload_n hx hb dX7_reckons_3 rfl (lv_at hl 0 rfl) ?_
      refine db_get hx hb hts hown hK hS 0 0 (mm_k 0 rfl) rfl db_c7 0 (by decide) wd_441 rfl dX7_reckons_4 ?_
      refine lv_icmp_ge (tgt := 28) hx hb dX7_reckons_7 (by decide) (fun c7 => ?_) (fun c7 => ?_)
      · have hj : j = N 0 := by
          rcases Nat.lt_or_ge j (N 0) with q9 | q9
          · exact absurd c7 (nI_ge q9 hn0)
          · omega
        refine lv_iconst (v := 1) hx hb dX7_reckons_28 (by decide) ?_
        refine lv_istore_n (lv' := [(1, .int 1), (0, .ref (L 0 0))]) hx hb dX7_reckons_29 rfl hl (by decide) rfl (fun ls hl => ?_)
        have K30 : ∀ (q : Nat) (more : Int32) (Xb : db_X) (dd : Nat) (hq : dd ≤ q) (hsb : mm_s N Xb X) (hAb : ∀ t, t < N 0 → Xb 29 0 t ≤ X 19 0 t) (hCb : ∀ t, t < N 0 → ∃ s, s < N 0 ∧ Xb 29 0 t = X 19 0 s ∧ ∃ m, db_it (mm_nx N X) m (nI s) = nI t) (hB : more = 0 → ∀ s t, s < N 0 → t < N 0 → mm_nx N X s = nI t → Xb 29 0 t ≤ Xb 29 0 s) (hd : 2 * mm_sum (fun i => Xb 29 0 i) (N 0) + mm_b more < dd) (H : Heap) (locs : List Loc) (hS : db_S Γ A s.heap L mm_ok (mm_cel Γ N L) Xb H locs) (ls : Array Slot) (hl : lv_has ls 4 [(0, .ref (L 0 0)), (1, .int more)]), W p l e (db_rm 2 42) s m args below meth c H locs 0 0 Q (F0 m 30 ls []) := by
          intro q30
          induction q30 with
          | zero =>
            intro more Xb dd hq30 hsb hAb hCb hB hd
            exact absurd hq30 (by omega)
          | succ q30 ih30 =>
            intro more Xb dd hq30 hsb hAb hCb hB hd H locs hS ls hl
            refine lv_iload_n hx hb dX7_reckons_30 rfl (lv_at hl 1 rfl) ?_
            refine lv_if_eq (tgt := 125) hx hb dX7_reckons_31 (by decide) (fun c31 => ?_) (fun c31 => ?_)
            · exact hret _ _ _ _ _ hS (mm_rk_of hN hI hsb ⟨hAb, hB c31, hCb⟩) dX7_reckons_125
            · refine lv_iconst (v := 0) hx hb dX7_reckons_34 (by decide) ?_
              refine lv_istore_n (lv' := [(1, .int 0), (0, .ref (L 0 0))]) hx hb dX7_reckons_35 rfl hl (by decide) rfl (fun ls hl => ?_)
              refine lv_iconst (v := 0) hx hb dX7_reckons_36 (by decide) ?_
              refine lv_istore_n (lv' := [(2, .int 0), (1, .int 0), (0, .ref (L 0 0))]) hx hb dX7_reckons_37 rfl hl (by decide) rfl (fun ls hl => ?_)
              have K38 : ∀ (q : Nat) (t : Nat) (mo : Int32) (Xc : db_X) (hq : N 0 + 1 - t ≤ q) (ht0 : t ≤ N 0) (hsc : mm_s N Xc X) (hAc : ∀ t, t < N 0 → Xc 29 0 t ≤ X 19 0 t) (hCc : ∀ t, t < N 0 → ∃ s, s < N 0 ∧ Xc 29 0 t = X 19 0 s ∧ ∃ m, db_it (mm_nx N X) m (nI s) = nI t) (hmo : (mo = 0 ∧ Xc = Xb ∧ ∀ s, s < t → ∀ u, u < N 0 → mm_nx N X s = nI u → Xc 29 0 u ≤ Xc 29 0 s) ∨ (mo = 1 ∧ mm_sum (fun i => Xc 29 0 i) (N 0) < mm_sum (fun i => Xb 29 0 i) (N 0))) (H : Heap) (locs : List Loc) (hS : db_S Γ A s.heap L mm_ok (mm_cel Γ N L) Xc H locs) (ls : Array Slot) (hl : lv_has ls 4 [(0, .ref (L 0 0)), (1, .int mo), (2, .int (nI t))]), W p l e (db_rm 2 42) s m args below meth c H locs 0 0 Q (F0 m 38 ls []) := by
                intro q38
                induction q38 with
                | zero =>
                  intro t mo Xc hq38 ht0 hsc hAc hCc hmo
                  exact absurd hq38 (by omega)
                | succ q38 ih38 =>
                  intro t mo Xc hq38 ht0 hsc hAc hCc hmo H locs hS ls hl
                  have hIc : mm_I N sz Xc := hsc.I hI
                  refine lv_iload_n hx hb dX7_reckons_38 rfl (lv_at hl 2 rfl) ?_
                  refine lv_aload_n hx hb dX7_reckons_39 rfl (lv_at hl 0 rfl) ?_
                  refine db_get hx hb hts hown hK hS 0 0 (mm_k 0 rfl) rfl db_c7 0 (by decide) wd_441 rfl dX7_reckons_40 ?_
                  refine lv_icmp_ge (tgt := 122) hx hb dX7_reckons_43 (by decide) (fun c43 => ?_) (fun c43 => ?_)
                  · have ht : t = N 0 := by
                      rcases Nat.lt_or_ge t (N 0) with q9 | q9
                      · exact absurd c43 (nI_ge q9 hn0)
                      · omega
                    refine lv_goto (tgt := 30) hx hb dX7_reckons_122 (by decide) ?_
                    have hBn : mo = 0 → ∀ s t, s < N 0 → t < N 0 → mm_nx N X s = nI t → Xc 29 0 t ≤ Xc 29 0 s := by
                      intro q9 s9 t9 hs9 ht9 e9
                      rcases hmo with ⟨h1, h2, h3⟩ | ⟨h1, h2⟩
                      · exact h3 s9 (by omega) t9 ht9 e9
                      · rw [h1] at q9; exact absurd q9 (by decide)
                    have hnew : 2 * mm_sum (fun i => Xc 29 0 i) (N 0) + mm_b mo + 1 ≤ q30 := by
                      have hb1 : mm_b more = 1 := by unfold mm_b; rw [if_neg c31]
                      rcases hmo with ⟨h1, h2, -⟩ | ⟨h1, h2⟩
                      · have hb0 : mm_b mo = 0 := by rw [h1]; rfl
                        rw [h2]; omega
                      · have hb0 : mm_b mo = 1 := by rw [h1]; rfl
                        omega
                    exact ih30 mo Xc (2 * mm_sum (fun i => Xc 29 0 i) (N 0) + mm_b mo + 1) (by omega) hsc hAc hCc hBn (by omega) _ _ hS _ (lv_sub hl [0, 1] rfl)
                  · have ht : t < N 0 := by
                      rcases Nat.lt_or_ge t (N 0) with q9 | q9
                      · exact q9
                      · exact absurd (nI_le q9 (by omega)) c43
                    refine lv_aload_n hx hb dX7_reckons_46 rfl (lv_at hl 0 rfl) ?_
                    refine lv_iload_n hx hb dX7_reckons_47 rfl (lv_at hl 2 rfl) ?_
                    refine db_cV (As := [.int (nI t)]) (rest := []) (st1 := [.int (mm_isP N Xc (nI t))]) hC hS 0 0 (mm_k 0 rfl) rfl db_c7 (c_X7_isPending l Γ N L Xc hN (nI t) ) (cw_X7_isPending (Nat.le_of_ble_eq_true rfl) (Nat.le_of_ble_eq_true rfl)) wd_591 wd_593 ws_41 rfl hl.1 rfl (Nat.le_of_ble_eq_true rfl) dX7_reckons_48 ⟨Nat.le_of_ble_eq_true rfl, Nat.le_of_ble_eq_true rfl⟩ rfl (fun H locs hS => ?_)
                    refine lv_if_eq (tgt := 116) hx hb dX7_reckons_51 (by decide) (fun c51 => ?_) (fun c51 => ?_)
                    · refine lv_iinc (v := (nI (t + 1))) (lv' := [(2, .int (nI (t + 1))), (0, .ref (L 0 0)), (1, .int mo)]) hx hb dX7_reckons_116 hl (k := 2) rfl (nI_1 _) (by decide) rfl (fun ls hl => ?_)
                      refine lv_goto (tgt := 38) hx hb dX7_reckons_119 (by decide) ?_
                      have hmn : (mo = 0 ∧ Xc = Xb ∧ ∀ s, s < t + 1 → ∀ u, u < N 0 → mm_nx N X s = nI u → Xc 29 0 u ≤ Xc 29 0 s) ∨ (mo = 1 ∧ mm_sum (fun i => Xc 29 0 i) (N 0) < mm_sum (fun i => Xb 29 0 i) (N 0)) := by
                        rcases hmo with ⟨h1, h2, h3⟩ | h1
                        · refine Or.inl ⟨h1, h2, fun s9 hs9 u9 hu9 e9 => ?_⟩
                          by_cases q9 : s9 = t
                          · rw [q9] at e9 ⊢
                            rw [mm_nx, ← hsc.isP, if_pos c51] at e9; exact absurd e9.symm (nI_ne1 (by omega))
                          · exact h3 s9 (by omega) u9 hu9 e9
                        · exact Or.inr h1
                      exact ih38 (t + 1) mo Xc (by omega) ht hsc hAc hCc hmn _ _ hS _ (lv_sub hl [1, 2, 0] rfl)
                    · refine lv_aload_n hx hb dX7_reckons_54 rfl (lv_at hl 0 rfl) ?_
                      refine db_get hx hb hts hown hK hS 0 0 (mm_k 0 rfl) rfl db_c7 21 (by decide) wd_462 rfl dX7_reckons_55 ?_
                      refine lv_iload_n hx hb dX7_reckons_58 rfl (lv_at hl 2 rfl) ?_
                      refine db_ild hx hb hK hS 21 0 (mm_k 21 rfl) rfl t rfl (Nat.lt_of_lt_of_le ht hN.2.1) (by decide) dX7_reckons_59 ?_
                      refine lv_iconst (v := -1) hx hb dX7_reckons_60 (by decide) ?_
                      refine lv_icmp_ne (tgt := 67) hx hb dX7_reckons_61 (by decide) (fun c61 => ?_) (fun c61 => ?_)
                      · have hwin : db_in (Xc 21 0 t) 16 := (hIc.1 t ht).resolve_left c61
                        refine lv_aload_n hx hb dX7_reckons_67 rfl (lv_at hl 0 rfl) ?_
                        refine db_get hx hb hts hown hK hS 0 0 (mm_k 0 rfl) rfl db_c7 23 (by decide) wd_464 rfl dX7_reckons_68 ?_
                        refine lv_aload_n hx hb dX7_reckons_71 rfl (lv_at hl 0 rfl) ?_
                        refine db_get hx hb hts hown hK hS 0 0 (mm_k 0 rfl) rfl db_c7 21 (by decide) wd_462 rfl dX7_reckons_72 ?_
                        refine lv_iload_n hx hb dX7_reckons_75 rfl (lv_at hl 2 rfl) ?_
                        refine db_ild hx hb hK hS 21 0 (mm_k 21 rfl) rfl t rfl (Nat.lt_of_lt_of_le ht hN.2.1) (by decide) dX7_reckons_76 ?_
                        refine db_ild hx hb hK hS 23 0 (mm_k 23 rfl) rfl ((Xc 21 0 t).toNatClampNeg) (hwin.eq (by decide)) (hwin.lt (by decide)) (by decide) dX7_reckons_77 ?_
                        refine lv_istore_n (lv' := [(3, .int (Xc 23 0 ((Xc 21 0 t).toNatClampNeg))), (0, .ref (L 0 0)), (1, .int mo), (2, .int (nI t))]) hx hb dX7_reckons_78 rfl hl (by decide) rfl (fun ls hl => ?_)
                        refine lv_iload_n hx hb dX7_reckons_79 rfl (lv_at hl 0 rfl) ?_
                        refine lv_iconst (v := -1) hx hb dX7_reckons_80 (by decide) ?_
                        refine lv_icmp_eq (tgt := 116) hx hb dX7_reckons_81 (by decide) (fun c81 => ?_) (fun c81 => ?_)
                        · refine lv_iinc (v := (nI (t + 1))) (lv' := [(2, .int (nI (t + 1))), (3, .int (Xc 23 0 ((Xc 21 0 t).toNatClampNeg))), (0, .ref (L 0 0)), (1, .int mo)]) hx hb dX7_reckons_116 hl (k := 3) rfl (nI_1 _) (by decide) rfl (fun ls hl => ?_)
                          refine lv_goto (tgt := 38) hx hb dX7_reckons_119 (by decide) ?_
                          have hmn : (mo = 0 ∧ Xc = Xb ∧ ∀ s, s < t + 1 → ∀ u, u < N 0 → mm_nx N X s = nI u → Xc 29 0 u ≤ Xc 29 0 s) ∨ (mo = 1 ∧ mm_sum (fun i => Xc 29 0 i) (N 0) < mm_sum (fun i => Xb 29 0 i) (N 0)) := by
                            rcases hmo with ⟨h1, h2, h3⟩ | h1
                            · refine Or.inl ⟨h1, h2, fun s9 hs9 u9 hu9 e9 => ?_⟩
                              by_cases q9 : s9 = t
                              · rw [q9] at e9 ⊢
                                rw [mm_nx, ← hsc.isP, if_neg c51, ← hsc 21 0 t (by simp), if_neg c61, ← hsc 23 0 _ (by simp), c81] at e9; exact absurd e9.symm (nI_ne1 (by omega))
                              · exact h3 s9 (by omega) u9 hu9 e9
                            · exact Or.inr h1
                          exact ih38 (t + 1) mo Xc (by omega) ht hsc hAc hCc hmn _ _ hS _ (lv_sub hl [2, 3, 0] rfl)
                        · have hhin : db_in (Xc 23 0 (Xc 21 0 t).toNatClampNeg) (N 0) := (hIc.2.1 _ (hwin.lt (by decide))).resolve_left c81
                          refine lv_aload_n hx hb dX7_reckons_84 rfl (lv_at hl 1 rfl) ?_
                          refine db_get hx hb hts hown hK hS 0 0 (mm_k 0 rfl) rfl db_c7 29 (by decide) wd_470 rfl dX7_reckons_85 ?_
                          refine lv_iload_n hx hb dX7_reckons_88 rfl (lv_at hl 0 rfl) ?_
                          refine db_ild hx hb hK hS 29 0 (mm_k 29 rfl) rfl ((Xc 23 0 ((Xc 21 0 t).toNatClampNeg)).toNatClampNeg) (hhin.eq hn0) (Nat.lt_of_lt_of_le (hhin.lt hn0) hN.2.1) (by decide) dX7_reckons_89 ?_
                          refine lv_aload_n hx hb dX7_reckons_90 rfl (lv_at hl 1 rfl) ?_
                          refine db_get hx hb hts hown hK hS 0 0 (mm_k 0 rfl) rfl db_c7 29 (by decide) wd_470 rfl dX7_reckons_91 ?_
                          refine lv_iload_n hx hb dX7_reckons_94 rfl (lv_at hl 3 rfl) ?_
                          refine db_ild hx hb hK hS 29 0 (mm_k 29 rfl) rfl t rfl (Nat.lt_of_lt_of_le ht hN.2.1) (by decide) dX7_reckons_95 ?_
                          refine lv_icmp_gt (tgt := 102) hx hb dX7_reckons_96 (by decide) (fun c96 => ?_) (fun c96 => ?_)
                          · refine lv_aload_n hx hb dX7_reckons_102 rfl (lv_at hl 1 rfl) ?_
                            refine db_get hx hb hts hown hK hS 0 0 (mm_k 0 rfl) rfl db_c7 29 (by decide) wd_470 rfl dX7_reckons_103 ?_
                            refine lv_iload_n hx hb dX7_reckons_106 rfl (lv_at hl 0 rfl) ?_
                            refine lv_aload_n hx hb dX7_reckons_107 rfl (lv_at hl 1 rfl) ?_
                            refine db_get hx hb hts hown hK hS 0 0 (mm_k 0 rfl) rfl db_c7 29 (by decide) wd_470 rfl dX7_reckons_108 ?_
                            refine lv_iload_n hx hb dX7_reckons_111 rfl (lv_at hl 3 rfl) ?_
                            refine db_ild hx hb hK hS 29 0 (mm_k 29 rfl) rfl t rfl (Nat.lt_of_lt_of_le ht hN.2.1) (by decide) dX7_reckons_112 ?_
                            refine db_ist hx hb hK hS 29 0 (mm_k 29 rfl) (fun _ => rfl) ((Xc 23 0 ((Xc 21 0 t).toNatClampNeg)).toNatClampNeg) (hhin.eq hn0) (Nat.lt_of_lt_of_le (hhin.lt hn0) hN.2.1) (by decide) dX7_reckons_113 (fun H locs hS => ?_)
                            obtain ⟨X1, eX1⟩ : ∃ z, z = db_up Xc 29 0 ((Xc 23 0 ((Xc 21 0 t).toNatClampNeg)).toNatClampNeg) (Xc 29 0 t) := ⟨_, rfl⟩
                            rw [← eX1] at hS
                            refine lv_iconst (v := 1) hx hb dX7_reckons_114 (by decide) ?_
                            refine lv_istore_n (lv' := [(1, .int 1), (3, .int (Xc 23 0 ((Xc 21 0 t).toNatClampNeg))), (0, .ref (L 0 0)), (2, .int (nI t))]) hx hb dX7_reckons_115 rfl hl (by decide) rfl (fun ls hl => ?_)
                            refine lv_iinc (v := (nI (t + 1))) (lv' := [(2, .int (nI (t + 1))), (1, .int 1), (3, .int (Xc 23 0 ((Xc 21 0 t).toNatClampNeg))), (0, .ref (L 0 0))]) hx hb dX7_reckons_116 hl (k := 3) rfl (nI_1 _) (by decide) rfl (fun ls hl => ?_)
                            refine lv_goto (tgt := 38) hx hb dX7_reckons_119 (by decide) ?_
                            have hh : db_in (Xc 23 0 (Xc 21 0 t).toNatClampNeg) (N 0) := hhin
                            have hedge : mm_nx N X t = nI (Xc 23 0 (Xc 21 0 t).toNatClampNeg).toNatClampNeg := by rw [mm_nx, ← hsc.isP, if_neg c51, ← hsc 21 0 t (by simp), if_neg c61, ← hsc 23 0 _ (by simp)]; exact hh.eq hn0
                            have hs1 : mm_s N X1 X := by rw [eX1]; exact (mm_s.up (hh.lt hn0)).tr hsc
                            have hv1 : ∀ u, X1 29 0 u = if u = (Xc 23 0 (Xc 21 0 t).toNatClampNeg).toNatClampNeg then Xc 29 0 t else Xc 29 0 u := by intro u; rw [eX1]; by_cases q9 : u = (Xc 23 0 (Xc 21 0 t).toNatClampNeg).toNatClampNeg <;> simp [db_up, q9]
                            have hA1 : ∀ u, u < N 0 → X1 29 0 u ≤ X 19 0 u := by
                              intro u hu
                              rw [hv1]
                              split
                              · rename_i q9; exact Int32.le_trans (by rw [q9]; exact Int32.le_of_lt c96) (hAc u hu)
                              · exact hAc u hu
                            have hC1 : ∀ u, u < N 0 → ∃ s, s < N 0 ∧ X1 29 0 u = X 19 0 s ∧ ∃ m, db_it (mm_nx N X) m (nI s) = nI u := by
                              intro u hu
                              rw [hv1]
                              split
                              · rename_i q9
                                obtain ⟨s9, h1, h2, m9, h3⟩ := hCc t ht
                                exact ⟨s9, h1, h2, m9 + 1, by rw [db_it_add, h3, db_it_s (by omega), q9]; exact hedge⟩
                              · exact hCc u hu
                            have hm1 : mm_sum (fun i => X1 29 0 i) (N 0) < mm_sum (fun i => Xb 29 0 i) (N 0) := by
                              have h1 : mm_sum (fun i => X1 29 0 i) (N 0) < mm_sum (fun i => Xc 29 0 i) (N 0) := mm_sum_lt (h := (Xc 23 0 (Xc 21 0 t).toNatClampNeg).toNatClampNeg) (by show X1 29 0 _ < Xc 29 0 _; rw [hv1, if_pos rfl]; exact c96) (N 0) (hh.lt hn0) (fun i hi q9 => by show X1 29 0 i = Xc 29 0 i; rw [hv1, if_neg q9])
                              rcases hmo with ⟨-, h2, -⟩ | ⟨-, h2⟩
                              · rw [← h2]; exact h1
                              · omega
                            exact ih38 (t + 1) 1 X1 (by omega) ht hs1 hA1 hC1 (Or.inr ⟨rfl, hm1⟩) _ _ hS _ (lv_sub hl [3, 1, 0] rfl)
                          · refine lv_goto (tgt := 116) hx hb dX7_reckons_99 (by decide) ?_
                            refine lv_iinc (v := (nI (t + 1))) (lv' := [(2, .int (nI (t + 1))), (3, .int (Xc 23 0 ((Xc 21 0 t).toNatClampNeg))), (0, .ref (L 0 0)), (1, .int mo)]) hx hb dX7_reckons_116 hl (k := 3) rfl (nI_1 _) (by decide) rfl (fun ls hl => ?_)
                            refine lv_goto (tgt := 38) hx hb dX7_reckons_119 (by decide) ?_
                            have hmn : (mo = 0 ∧ Xc = Xb ∧ ∀ s, s < t + 1 → ∀ u, u < N 0 → mm_nx N X s = nI u → Xc 29 0 u ≤ Xc 29 0 s) ∨ (mo = 1 ∧ mm_sum (fun i => Xc 29 0 i) (N 0) < mm_sum (fun i => Xb 29 0 i) (N 0)) := by
                              rcases hmo with ⟨h1, h2, h3⟩ | h1
                              · refine Or.inl ⟨h1, h2, fun s9 hs9 u9 hu9 e9 => ?_⟩
                                by_cases q9 : s9 = t
                                · rw [q9] at e9 ⊢
                                  rw [mm_nx, ← hsc.isP, if_neg c51, ← hsc 21 0 t (by simp), if_neg c61, ← hsc 23 0 _ (by simp)] at e9; rw [e9, nI_clamp (by omega)] at c96; exact Int32.not_lt.mp c96
                                · exact h3 s9 (by omega) u9 hu9 e9
                              · exact Or.inr h1
                            exact ih38 (t + 1) mo Xc (by omega) ht hsc hAc hCc hmn _ _ hS _ (lv_sub hl [2, 3, 0] rfl)
                      · refine lv_goto (tgt := 116) hx hb dX7_reckons_64 (by decide) ?_
                        refine lv_iinc (v := (nI (t + 1))) (lv' := [(2, .int (nI (t + 1))), (0, .ref (L 0 0)), (1, .int mo)]) hx hb dX7_reckons_116 hl (k := 2) rfl (nI_1 _) (by decide) rfl (fun ls hl => ?_)
                        refine lv_goto (tgt := 38) hx hb dX7_reckons_119 (by decide) ?_
                        have hmn : (mo = 0 ∧ Xc = Xb ∧ ∀ s, s < t + 1 → ∀ u, u < N 0 → mm_nx N X s = nI u → Xc 29 0 u ≤ Xc 29 0 s) ∨ (mo = 1 ∧ mm_sum (fun i => Xc 29 0 i) (N 0) < mm_sum (fun i => Xb 29 0 i) (N 0)) := by
                          rcases hmo with ⟨h1, h2, h3⟩ | h1
                          · refine Or.inl ⟨h1, h2, fun s9 hs9 u9 hu9 e9 => ?_⟩
                            by_cases q9 : s9 = t
                            · rw [q9] at e9 ⊢
                              rw [mm_nx, ← hsc.isP, if_neg c51, ← hsc 21 0 t (by simp), if_pos c61] at e9; exact absurd e9.symm (nI_ne1 (by omega))
                            · exact h3 s9 (by omega) u9 hu9 e9
                          · exact Or.inr h1
                        exact ih38 (t + 1) mo Xc (by omega) ht hsc hAc hCc hmn _ _ hS _ (lv_sub hl [1, 2, 0] rfl)
              exact K38 _ 0 0 Xb (Nat.le_refl _) (Nat.zero_le _) hsb hAb hCb (Or.inl ⟨rfl, rfl, fun s hs => absurd hs (by omega)⟩) _ _ hS _ (lv_sub hl [2, 1, 0] rfl)
        exact K30 _ 1 Xa (2 * mm_sum (fun i => Xa 29 0 i) (N 0) + mm_b 1 + 1) (Nat.le_refl _) hsa (fun t ht => by rw [hFa t (by omega)]; exact Int32.le_refl _) (fun t ht => ⟨t, ht, hFa t (by omega), 0, rfl⟩) (fun q9 => absurd q9 (by decide)) (by omega) _ _ hS _ (lv_sub hl [1, 0] rfl)
      · have hj : j < N 0 := by
          rcases Nat.lt_or_ge j (N 0) with q9 | q9
          · exact q9
          · exact absurd (nI_le q9 (by omega)) c7
        refine lv_aload_n hx hb dX7_reckons_10 rfl (lv_at hl 0 rfl) ?_
        refine db_get hx hb hts hown hK hS 0 0 (mm_k 0 rfl) rfl db_c7 29 (by decide) wd_470 rfl dX7_reckons_11 ?_
        refine lv_iload_n hx hb dX7_reckons_14 rfl (lv_at hl 1 rfl) ?_
        refine lv_aload_n hx hb dX7_reckons_15 rfl (lv_at hl 0 rfl) ?_
        refine db_get hx hb hts hown hK hS 0 0 (mm_k 0 rfl) rfl db_c7 19 (by decide) wd_460 rfl dX7_reckons_16 ?_
        refine lv_iload_n hx hb dX7_reckons_19 rfl (lv_at hl 1 rfl) ?_
        refine db_ild hx hb hK hS 19 0 (mm_k 19 rfl) rfl j rfl (Nat.lt_of_lt_of_le hj hN.2.1) (by decide) dX7_reckons_20 ?_
        refine db_ist hx hb hK hS 29 0 (mm_k 29 rfl) (fun _ => rfl) j rfl (Nat.lt_of_lt_of_le hj hN.2.1) (by decide) dX7_reckons_21 (fun H locs hS => ?_)
        obtain ⟨X2, eX2⟩ : ∃ z, z = db_up Xa 29 0 j (Xa 19 0 j) := ⟨_, rfl⟩
        rw [← eX2] at hS
        refine lv_iinc (v := (nI (j + 1))) (lv' := [(1, .int (nI (j + 1))), (0, .ref (L 0 0))]) hx hb dX7_reckons_22 hl (k := 1) rfl (nI_1 _) (by decide) rfl (fun ls hl => ?_)
        refine lv_goto (tgt := 2) hx hb dX7_reckons_25 (by decide) ?_
        have hFn : ∀ f, f < j + 1 → X2 29 0 f = X 19 0 f := by
          intro f hf
          rw [eX2]
          by_cases q9 : f = j
          · subst q9; simp [db_up]; exact hsa 19 0 f (by simp)
          · simp [db_up, q9]; exact hFa f (by omega)
        exact ih2 (j + 1) X2 (by omega) hj (by rw [eX2]; exact (mm_s.up hj).tr hsa) hFn _ _ hS _ (lv_sub hl [1, 0] rfl)
  exact K2 _ 0 X (Nat.le_refl _) (Nat.zero_le _) mm_s.rf (fun f hf => absurd hf (by omega)) _ _ hS _ (lv_sub hl [1, 0] rfl)

set_option maxHeartbeats 4000000 in
set_option maxRecDepth 100000 in
theorem c_X7_ahead (l : Launch) (Γ : db_G) (N : Nat → Nat) (L : Nat → Nat → Nat) (X : db_X) (hN : bb_N N) (a : Int32) (sz : Nat) (hI : mm_I N sz X) : db_C l Γ yX7_ahead cX7_ahead 4 (some .int) (db_rm 3 65) [.ref (L 0 0), .int a] L mm_ok (mm_cel Γ N L) X (some (.int (mm_ahead N (mm_rk N X) a))) (mm_rk N X) := by
  have hn0 : N 0 < 2 ^ 31 := by have := hN.2.1; omega
  have hn1 : N 1 < 2 ^ 31 := by have := hN.2.2.1; omega
  have hn2 : N 2 < 2 ^ 31 := by have := hN.2.2.2.1; omega
  have hn3 : N 3 < 2 ^ 31 := by have := hN.2.2.2.2; omega
  refine db_introI (by decide +kernel) (Nat.le_of_ble_eq_true rfl) ?_
  intro p e s m args below meth c A Q ls hC hS hl hret
  have hC : db_Cx p s m args meth c Γ RX7 cX7_ahead 4 (some .int) := hC
  obtain ⟨hx, hb, hml, hr, hlocks, hown, hts, hK⟩ := id hC
  have hl : lv_has ls 4 [(0, .ref (L 0 0)), (1, .int a)] := hl
  refine lv_aload_n hx hb dX7_ahead_0 rfl (lv_at hl 0 rfl) ?_
  refine db_cV (As := []) (rest := []) (st1 := []) hC hS 0 0 (mm_k 0 rfl) rfl db_c7 (c_X7_reckons l Γ N L X hN sz hI) (cw_X7_reckons (Nat.le_of_ble_eq_true rfl) (Nat.le_of_ble_eq_true rfl)) wd_587 wd_589 ws_40 rfl hl.1 rfl (Nat.le_of_ble_eq_true rfl) dX7_ahead_1 ⟨Nat.le_of_ble_eq_true rfl, Nat.le_of_ble_eq_true rfl⟩ rfl (fun H locs hS => ?_)
  obtain ⟨X1, eX1⟩ : ∃ z, z = mm_rk N X := ⟨_, rfl⟩
  rw [← eX1] at hS
  obtain ⟨Xr, eXr⟩ : ∃ z, z = X1 := ⟨_, rfl⟩
  rw [← eXr] at hS
  refine lv_iconst (v := -1) hx hb dX7_ahead_4 (by decide) ?_
  refine lv_istore_n (lv' := [(2, .int (-1)), (0, .ref (L 0 0)), (1, .int a)]) hx hb dX7_ahead_5 rfl hl (by decide) rfl (fun ls hl => ?_)
  refine lv_iconst (v := 0) hx hb dX7_ahead_6 (by decide) ?_
  refine lv_istore_n (lv' := [(3, .int 0), (2, .int (-1)), (0, .ref (L 0 0)), (1, .int a)]) hx hb dX7_ahead_7 rfl hl (by decide) rfl (fun ls hl => ?_)
  have K8 : ∀ (q : Nat) (j : Nat) (f : Int32) (hq : N 0 + 1 - j ≤ q) (hj0 : j ≤ N 0) (ef : f = db_ah (fun j => decide (¬ mm_isP N Xr (nI j) = 0 ∧ Xr 21 0 j = a)) (fun j => Xr 29 0 j) j) (H : Heap) (locs : List Loc) (hS : db_S Γ A s.heap L mm_ok (mm_cel Γ N L) Xr H locs) (ls : Array Slot) (hl : lv_has ls 4 [(0, .ref (L 0 0)), (1, .int a), (2, .int f), (3, .int (nI j))]), W p l e (db_rm 3 65) s m args below meth c H locs 0 0 Q (F0 m 8 ls []) := by
    intro q8
    induction q8 with
    | zero =>
      intro j f hq8 hj0 ef
      exact absurd hq8 (by omega)
    | succ q8 ih8 =>
      intro j f hq8 hj0 ef H locs hS ls hl
      refine lv_iload_n hx hb dX7_ahead_8 rfl (lv_at hl 3 rfl) ?_
      refine lv_aload_n hx hb dX7_ahead_9 rfl (lv_at hl 0 rfl) ?_
      refine db_get hx hb hts hown hK hS 0 0 (mm_k 0 rfl) rfl db_c7 0 (by decide) wd_441 rfl dX7_ahead_10 ?_
      refine lv_icmp_ge (tgt := 65) hx hb dX7_ahead_13 (by decide) (fun c13 => ?_) (fun c13 => ?_)
      · have hj : j = N 0 := by
          rcases Nat.lt_or_ge j (N 0) with q9 | q9
          · exact absurd c13 (nI_ge q9 hn0)
          · omega
        refine lv_iload_n hx hb dX7_ahead_65 rfl (lv_at hl 2 rfl) ?_
        exact hret _ _ _ _ _ _ hS (by rw [ef, hj, eXr, eX1]; rfl) (by rw [eXr, eX1]) dX7_ahead_66
      · have hj : j < N 0 := by
          rcases Nat.lt_or_ge j (N 0) with q9 | q9
          · exact q9
          · exact absurd (nI_le q9 (by omega)) c13
        refine lv_aload_n hx hb dX7_ahead_16 rfl (lv_at hl 0 rfl) ?_
        refine lv_iload_n hx hb dX7_ahead_17 rfl (lv_at hl 3 rfl) ?_
        refine db_cV (As := [.int (nI j)]) (rest := []) (st1 := [.int (mm_isP N Xr (nI j))]) hC hS 0 0 (mm_k 0 rfl) rfl db_c7 (c_X7_isPending l Γ N L Xr hN (nI j) ) (cw_X7_isPending (Nat.le_of_ble_eq_true rfl) (Nat.le_of_ble_eq_true rfl)) wd_591 wd_593 ws_41 rfl hl.1 rfl (Nat.le_of_ble_eq_true rfl) dX7_ahead_18 ⟨Nat.le_of_ble_eq_true rfl, Nat.le_of_ble_eq_true rfl⟩ rfl (fun H locs hS => ?_)
        refine lv_if_eq (tgt := 59) hx hb dX7_ahead_21 (by decide) (fun c21 => ?_) (fun c21 => ?_)
        · refine lv_iinc (v := (nI (j + 1))) (lv' := [(3, .int (nI (j + 1))), (0, .ref (L 0 0)), (1, .int a), (2, .int f)]) hx hb dX7_ahead_59 hl (k := 3) rfl (nI_1 _) (by decide) rfl (fun ls hl => ?_)
          refine lv_goto (tgt := 8) hx hb dX7_ahead_62 (by decide) ?_
          exact ih8 (j + 1) f (by omega) hj (by rw [db_ah, ← ef, if_neg (by simp [c21])]) _ _ hS _ (lv_sub hl [1, 2, 3, 0] rfl)
        · refine lv_aload_n hx hb dX7_ahead_24 rfl (lv_at hl 0 rfl) ?_
          refine db_get hx hb hts hown hK hS 0 0 (mm_k 0 rfl) rfl db_c7 21 (by decide) wd_462 rfl dX7_ahead_25 ?_
          refine lv_iload_n hx hb dX7_ahead_28 rfl (lv_at hl 3 rfl) ?_
          refine db_ild hx hb hK hS 21 0 (mm_k 21 rfl) rfl j rfl (Nat.lt_of_lt_of_le hj hN.2.1) (by decide) dX7_ahead_29 ?_
          refine lv_iload_n hx hb dX7_ahead_30 rfl (lv_at hl 1 rfl) ?_
          refine lv_icmp_eq (tgt := 37) hx hb dX7_ahead_31 (by decide) (fun c31 => ?_) (fun c31 => ?_)
          · refine lv_iload_n hx hb dX7_ahead_37 rfl (lv_at hl 2 rfl) ?_
            refine lv_iconst (v := -1) hx hb dX7_ahead_38 (by decide) ?_
            refine lv_icmp_eq (tgt := 57) hx hb dX7_ahead_39 (by decide) (fun c39 => ?_) (fun c39 => ?_)
            · refine lv_iload_n hx hb dX7_ahead_57 rfl (lv_at hl 3 rfl) ?_
              refine lv_istore_n (lv' := [(2, .int (nI j)), (0, .ref (L 0 0)), (1, .int a), (3, .int (nI j))]) hx hb dX7_ahead_58 rfl hl (by decide) rfl (fun ls hl => ?_)
              refine lv_iinc (v := (nI (j + 1))) (lv' := [(3, .int (nI (j + 1))), (2, .int (nI j)), (0, .ref (L 0 0)), (1, .int a)]) hx hb dX7_ahead_59 hl (k := 3) rfl (nI_1 _) (by decide) rfl (fun ls hl => ?_)
              refine lv_goto (tgt := 8) hx hb dX7_ahead_62 (by decide) ?_
              exact ih8 (j + 1) (nI j) (by omega) hj (by rw [db_ah, ← ef, if_pos (by simp [c21, c31]), if_pos c39]) _ _ hS _ (lv_sub hl [2, 3, 1, 0] rfl)
            · have hin : db_in f (N 0) := by
                rcases db_ah_in (sel := fun j => decide (¬ mm_isP N Xr (nI j) = 0 ∧ Xr 21 0 j = a)) (ef := fun j => Xr 29 0 j) j with q9 | ⟨w, q1, q2, -⟩
                · exact absurd (ef.trans q9) c39
                · exact ⟨w, by omega, ef.trans q2⟩
              refine lv_aload_n hx hb dX7_ahead_42 rfl (lv_at hl 0 rfl) ?_
              refine db_get hx hb hts hown hK hS 0 0 (mm_k 0 rfl) rfl db_c7 29 (by decide) wd_470 rfl dX7_ahead_43 ?_
              refine lv_iload_n hx hb dX7_ahead_46 rfl (lv_at hl 3 rfl) ?_
              refine db_ild hx hb hK hS 29 0 (mm_k 29 rfl) rfl j rfl (Nat.lt_of_lt_of_le hj hN.2.1) (by decide) dX7_ahead_47 ?_
              refine lv_aload_n hx hb dX7_ahead_48 rfl (lv_at hl 0 rfl) ?_
              refine db_get hx hb hts hown hK hS 0 0 (mm_k 0 rfl) rfl db_c7 29 (by decide) wd_470 rfl dX7_ahead_49 ?_
              refine lv_iload_n hx hb dX7_ahead_52 rfl (lv_at hl 2 rfl) ?_
              refine db_ild hx hb hK hS 29 0 (mm_k 29 rfl) rfl f.toNatClampNeg (hin.eq hn0) (Nat.lt_of_lt_of_le (hin.lt hn0) hN.2.1) (by decide) dX7_ahead_53 ?_
              refine lv_icmp_ge (tgt := 59) hx hb dX7_ahead_54 (by decide) (fun c54 => ?_) (fun c54 => ?_)
              · refine lv_iinc (v := (nI (j + 1))) (lv' := [(3, .int (nI (j + 1))), (0, .ref (L 0 0)), (1, .int a), (2, .int f)]) hx hb dX7_ahead_59 hl (k := 3) rfl (nI_1 _) (by decide) rfl (fun ls hl => ?_)
                refine lv_goto (tgt := 8) hx hb dX7_ahead_62 (by decide) ?_
                exact ih8 (j + 1) f (by omega) hj (by rw [db_ah, ← ef, if_pos (by simp [c21, c31]), if_neg c39, if_neg (Int32.not_lt.mpr c54)]) _ _ hS _ (lv_sub hl [1, 2, 3, 0] rfl)
              · refine lv_iload_n hx hb dX7_ahead_57 rfl (lv_at hl 3 rfl) ?_
                refine lv_istore_n (lv' := [(2, .int (nI j)), (0, .ref (L 0 0)), (1, .int a), (3, .int (nI j))]) hx hb dX7_ahead_58 rfl hl (by decide) rfl (fun ls hl => ?_)
                refine lv_iinc (v := (nI (j + 1))) (lv' := [(3, .int (nI (j + 1))), (2, .int (nI j)), (0, .ref (L 0 0)), (1, .int a)]) hx hb dX7_ahead_59 hl (k := 3) rfl (nI_1 _) (by decide) rfl (fun ls hl => ?_)
                refine lv_goto (tgt := 8) hx hb dX7_ahead_62 (by decide) ?_
                exact ih8 (j + 1) (nI j) (by omega) hj (by rw [db_ah, ← ef, if_pos (by simp [c21, c31]), if_neg c39, if_pos (Int32.not_le.mp c54)]) _ _ hS _ (lv_sub hl [2, 3, 1, 0] rfl)
          · refine lv_goto (tgt := 59) hx hb dX7_ahead_34 (by decide) ?_
            refine lv_iinc (v := (nI (j + 1))) (lv' := [(3, .int (nI (j + 1))), (0, .ref (L 0 0)), (1, .int a), (2, .int f)]) hx hb dX7_ahead_59 hl (k := 3) rfl (nI_1 _) (by decide) rfl (fun ls hl => ?_)
            refine lv_goto (tgt := 8) hx hb dX7_ahead_62 (by decide) ?_
            exact ih8 (j + 1) f (by omega) hj (by rw [db_ah, ← ef, if_neg (by simp [c31])]) _ _ hS _ (lv_sub hl [1, 2, 3, 0] rfl)
  exact K8 _ 0 (-1) (Nat.le_refl _) (Nat.zero_le _) rfl _ _ hS _ (lv_sub hl [2, 3, 1, 0] rfl)

set_option maxHeartbeats 4000000 in
set_option maxRecDepth 100000 in
theorem c_X7_letsGo (l : Launch) (Γ : db_G) (N : Nat → Nat) (L : Nat → Nat → Nat) (X : db_X) (hN : bb_N N) (sz k : Nat) (hI : mm_I N sz X) (hk : k < N 1) : db_C l Γ yX7_letsGo cX7_letsGo 3 (none) (db_rm 4 88) [.ref (L 0 0), .int (nI k)] L mm_ok (mm_cel Γ N L) X none (mm_lg N X k) := by
  have hn0 : N 0 < 2 ^ 31 := by have := hN.2.1; omega
  have hn1 : N 1 < 2 ^ 31 := by have := hN.2.2.1; omega
  have hn2 : N 2 < 2 ^ 31 := by have := hN.2.2.2.1; omega
  have hn3 : N 3 < 2 ^ 31 := by have := hN.2.2.2.2; omega
  refine db_introV (by decide +kernel) (Nat.le_of_ble_eq_true rfl) ?_
  intro p e s m args below meth c A Q ls hC hS hl hret
  have hC : db_Cx p s m args meth c Γ RX7 cX7_letsGo 3 (none) := hC
  obtain ⟨hx, hb, hml, hr, hlocks, hown, hts, hK⟩ := id hC
  have hl : lv_has ls 3 [(0, .ref (L 0 0)), (1, .int (nI k))] := hl
  refine lv_aload_n hx hb dX7_letsGo_0 rfl (lv_at hl 0 rfl) ?_
  refine db_get hx hb hts hown hK hS 0 0 (mm_k 0 rfl) rfl db_c7 23 (by decide) wd_464 rfl dX7_letsGo_1 ?_
  refine lv_iload_n hx hb dX7_letsGo_4 rfl (lv_at hl 1 rfl) ?_
  refine lv_iconst (v := -1) hx hb dX7_letsGo_5 (by decide) ?_
  refine db_ist hx hb hK hS 23 0 (mm_k 23 rfl) (fun _ => rfl) k rfl (Nat.lt_of_lt_of_le hk hN.2.2.1) (by decide) dX7_letsGo_6 (fun H locs hS => ?_)
  obtain ⟨X1, eX1⟩ : ∃ z, z = db_up X 23 0 k (-1) := ⟨_, rfl⟩
  rw [← eX1] at hS
  have hI1 : mm_I N sz X1 := by rw [eX1]; exact hI.up23 (Or.inl rfl)
  refine lv_aload_n hx hb dX7_letsGo_7 rfl (lv_at hl 0 rfl) ?_
  refine lv_iload_n hx hb dX7_letsGo_8 rfl (lv_at hl 1 rfl) ?_
  refine db_cV (As := [.int (nI k)]) (rest := []) (st1 := [.int (mm_ahead N (mm_rk N X1) (nI k))]) hC hS 0 0 (mm_k 0 rfl) rfl db_c7 (c_X7_ahead l Γ N L X1 hN (nI k) sz hI1) (cw_X7_ahead (Nat.le_of_ble_eq_true rfl) (Nat.le_of_ble_eq_true rfl)) wd_583 wd_585 ws_39 rfl hl.1 rfl (Nat.le_of_ble_eq_true rfl) dX7_letsGo_9 ⟨Nat.le_of_ble_eq_true rfl, Nat.le_of_ble_eq_true rfl⟩ rfl (fun H locs hS => ?_)
  obtain ⟨X2, eX2⟩ : ∃ z, z = mm_rk N X1 := ⟨_, rfl⟩
  rw [← eX2] at hS
  rw [show mm_ahead N (mm_rk N X1) (nI k) = mm_ahead N X2 (nI k) by rw [eX2]]
  refine lv_istore_n (lv' := [(2, .int (mm_ahead N X2 (nI k))), (0, .ref (L 0 0)), (1, .int (nI k))]) hx hb dX7_letsGo_12 rfl hl (by decide) rfl (fun ls hl => ?_)
  refine lv_iload_n hx hb dX7_letsGo_13 rfl (lv_at hl 0 rfl) ?_
  refine lv_iconst (v := -1) hx hb dX7_letsGo_14 (by decide) ?_
  refine lv_icmp_ne (tgt := 19) hx hb dX7_letsGo_15 (by decide) (fun c15 => ?_) (fun c15 => ?_)
  · have hin : db_in (mm_ahead N X2 (nI k)) (N 0) := mm_ahead_in c15
    refine lv_aload_n hx hb dX7_letsGo_19 rfl (lv_at hl 1 rfl) ?_
    refine db_get hx hb hts hown hK hS 0 0 (mm_k 0 rfl) rfl db_c7 23 (by decide) wd_464 rfl dX7_letsGo_20 ?_
    refine lv_iload_n hx hb dX7_letsGo_23 rfl (lv_at hl 2 rfl) ?_
    refine lv_iload_n hx hb dX7_letsGo_24 rfl (lv_at hl 0 rfl) ?_
    refine db_ist hx hb hK hS 23 0 (mm_k 23 rfl) (fun _ => rfl) k rfl (Nat.lt_of_lt_of_le hk hN.2.2.1) (by decide) dX7_letsGo_25 (fun H locs hS => ?_)
    obtain ⟨X3, eX3⟩ : ∃ z, z = db_up X2 23 0 k (mm_ahead N X2 (nI k)) := ⟨_, rfl⟩
    rw [← eX3] at hS
    refine lv_aload_n hx hb dX7_letsGo_26 rfl (lv_at hl 1 rfl) ?_
    refine db_get hx hb hts hown hK hS 0 0 (mm_k 0 rfl) rfl db_c7 21 (by decide) wd_462 rfl dX7_letsGo_27 ?_
    refine lv_iload_n hx hb dX7_letsGo_30 rfl (lv_at hl 0 rfl) ?_
    refine lv_iconst (v := -1) hx hb dX7_letsGo_31 (by decide) ?_
    refine db_ist hx hb hK hS 21 0 (mm_k 21 rfl) (fun _ => rfl) ((mm_ahead N X2 (nI k)).toNatClampNeg) (hin.eq hn0) (Nat.lt_of_lt_of_le (hin.lt hn0) hN.2.1) (by decide) dX7_letsGo_32 (fun H locs hS => ?_)
    obtain ⟨X4, eX4⟩ : ∃ z, z = db_up X3 21 0 ((mm_ahead N X2 (nI k)).toNatClampNeg) (-1) := ⟨_, rfl⟩
    rw [← eX4] at hS
    exact hret _ _ _ _ _ hS (by rw [mm_lg, mm_lg2, ← eX1, ← eX2, if_neg c15, eX4, eX3]; rfl) dX7_letsGo_33
  · exact hret _ _ _ _ _ hS (by rw [mm_lg, mm_lg2, ← eX1, ← eX2, if_pos c15]) dX7_letsGo_18

theorem c_X7_letsGo' (l : Launch) (Γ : db_G) (N : Nat → Nat) (L : Nat → Nat → Nat) (X : db_X) (hN : bb_N N) (t : Int32) (sz : Nat) (hI : mm_I N sz X) (ht : db_in t (N 1)) : db_C l Γ yX7_letsGo cX7_letsGo 3 (none) (db_rm 4 88) [.ref (L 0 0), .int t] L mm_ok (mm_cel Γ N L) X none (mm_lg N X t.toNatClampNeg) := by
  have hn1 : N 1 < 2 ^ 31 := by have := hN.2.2.1; omega
  have h := c_X7_letsGo l Γ N L X hN sz t.toNatClampNeg hI (ht.lt hn1)
  rw [← ht.eq hn1] at h
  exact h

set_option maxHeartbeats 4000000 in
set_option maxRecDepth 100000 in
theorem c_X7_drops (l : Launch) (Γ : db_G) (N : Nat → Nat) (L : Nat → Nat → Nat) (X : db_X) (hN : bb_N N) (sz i : Nat) (hI : mm_I N sz X) (hi : i < N 0) : db_C l Γ yX7_drops cX7_drops 3 (none) (db_rm 5 110) [.ref (L 0 0), .int (nI i)] L mm_ok (mm_cel Γ N L) X none (mm_drop N X i) := by
  have hn0 : N 0 < 2 ^ 31 := by have := hN.2.1; omega
  have hn1 : N 1 < 2 ^ 31 := by have := hN.2.2.1; omega
  have hn2 : N 2 < 2 ^ 31 := by have := hN.2.2.2.1; omega
  have hn3 : N 3 < 2 ^ 31 := by have := hN.2.2.2.2; omega
  refine db_introV (by decide +kernel) (Nat.le_of_ble_eq_true rfl) ?_
  intro p e s m args below meth c A Q ls hC hS hl hret
  have hC : db_Cx p s m args meth c Γ RX7 cX7_drops 3 (none) := hC
  obtain ⟨hx, hb, hml, hr, hlocks, hown, hts, hK⟩ := id hC
  have hl : lv_has ls 3 [(0, .ref (L 0 0)), (1, .int (nI i))] := hl
  refine lv_aload_n hx hb dX7_drops_0 rfl (lv_at hl 0 rfl) ?_
  refine db_get hx hb hts hown hK hS 0 0 (mm_k 0 rfl) rfl db_c7 17 (by decide) wd_458 rfl dX7_drops_1 ?_
  refine lv_iload_n hx hb dX7_drops_4 rfl (lv_at hl 1 rfl) ?_
  refine lv_iconst (v := 0) hx hb dX7_drops_5 (by decide) ?_
  refine db_zst hx hb hK hS 17 0 (mm_k 17 rfl) (fun _ => rfl) i rfl (Nat.lt_of_lt_of_le hi hN.2.1) (by decide) (Or.inl rfl) dX7_drops_6 (fun H locs hS => ?_)
  obtain ⟨X1, eX1⟩ : ∃ z, z = db_up X 17 0 i 0 := ⟨_, rfl⟩
  rw [← eX1] at hS
  refine lv_aload_n hx hb dX7_drops_7 rfl (lv_at hl 0 rfl) ?_
  refine db_get hx hb hts hown hK hS 0 0 (mm_k 0 rfl) rfl db_c7 21 (by decide) wd_462 rfl dX7_drops_8 ?_
  refine lv_iload_n hx hb dX7_drops_11 rfl (lv_at hl 1 rfl) ?_
  refine lv_iconst (v := -1) hx hb dX7_drops_12 (by decide) ?_
  refine db_ist hx hb hK hS 21 0 (mm_k 21 rfl) (fun _ => rfl) i rfl (Nat.lt_of_lt_of_le hi hN.2.1) (by decide) dX7_drops_13 (fun H locs hS => ?_)
  obtain ⟨X2, eX2⟩ : ∃ z, z = db_up X1 21 0 i (-1) := ⟨_, rfl⟩
  rw [← eX2] at hS
  refine lv_aload_n hx hb dX7_drops_14 rfl (lv_at hl 0 rfl) ?_
  refine db_get hx hb hts hown hK hS 0 0 (mm_k 0 rfl) rfl db_c7 22 (by decide) wd_463 rfl dX7_drops_15 ?_
  refine lv_iload_n hx hb dX7_drops_18 rfl (lv_at hl 1 rfl) ?_
  refine lv_iconst (v := 0) hx hb dX7_drops_19 (by decide) ?_
  refine db_zst hx hb hK hS 22 0 (mm_k 22 rfl) (fun _ => rfl) i rfl (Nat.lt_of_lt_of_le hi hN.2.1) (by decide) (Or.inl rfl) dX7_drops_20 (fun H locs hS => ?_)
  obtain ⟨X3, eX3⟩ : ∃ z, z = db_up X2 22 0 i 0 := ⟨_, rfl⟩
  rw [← eX3] at hS
  refine lv_iconst (v := 0) hx hb dX7_drops_21 (by decide) ?_
  refine lv_istore_n (lv' := [(2, .int 0), (0, .ref (L 0 0)), (1, .int (nI i))]) hx hb dX7_drops_22 rfl hl (by decide) rfl (fun ls hl => ?_)
  have K23 : ∀ (q : Nat) (k : Nat) (Xa : db_X) (hq : N 1 + 1 - k ≤ q) (hk0 : k ≤ N 1) (eXa : Xa = mm_dropL N (mm_drop0 X i) i k) (H : Heap) (locs : List Loc) (hS : db_S Γ A s.heap L mm_ok (mm_cel Γ N L) Xa H locs) (ls : Array Slot) (hl : lv_has ls 3 [(0, .ref (L 0 0)), (1, .int (nI i)), (2, .int (nI k))]), W p l e (db_rm 5 110) s m args below meth c H locs 0 0 Q (F0 m 23 ls []) := by
    intro q23
    induction q23 with
    | zero =>
      intro k Xa hq23 hk0 eXa
      exact absurd hq23 (by omega)
    | succ q23 ih23 =>
      intro k Xa hq23 hk0 eXa H locs hS ls hl
      have hIa : mm_I N sz Xa := by rw [eXa]; exact (((hI.up rfl).up21 (Or.inl rfl)).up rfl).dropL k
      refine lv_iload_n hx hb dX7_drops_23 rfl (lv_at hl 2 rfl) ?_
      refine lv_aload_n hx hb dX7_drops_24 rfl (lv_at hl 0 rfl) ?_
      refine db_get hx hb hts hown hK hS 0 0 (mm_k 0 rfl) rfl db_c7 1 (by decide) wd_442 rfl dX7_drops_25 ?_
      refine lv_icmp_ge (tgt := 52) hx hb dX7_drops_28 (by decide) (fun c28 => ?_) (fun c28 => ?_)
      · have hk : k = N 1 := by
          rcases Nat.lt_or_ge k (N 1) with q9 | q9
          · exact absurd c28 (nI_ge q9 hn1)
          · omega
        exact hret _ _ _ _ _ hS (by rw [eXa, hk]; rfl) dX7_drops_52
      · have hk : k < N 1 := by
          rcases Nat.lt_or_ge k (N 1) with q9 | q9
          · exact q9
          · exact absurd (nI_le q9 (by omega)) c28
        refine lv_aload_n hx hb dX7_drops_31 rfl (lv_at hl 0 rfl) ?_
        refine db_get hx hb hts hown hK hS 0 0 (mm_k 0 rfl) rfl db_c7 23 (by decide) wd_464 rfl dX7_drops_32 ?_
        refine lv_iload_n hx hb dX7_drops_35 rfl (lv_at hl 2 rfl) ?_
        refine db_ild hx hb hK hS 23 0 (mm_k 23 rfl) rfl k rfl (Nat.lt_of_lt_of_le hk hN.2.2.1) (by decide) dX7_drops_36 ?_
        refine lv_iload_n hx hb dX7_drops_37 rfl (lv_at hl 1 rfl) ?_
        refine lv_icmp_ne (tgt := 46) hx hb dX7_drops_38 (by decide) (fun c38 => ?_) (fun c38 => ?_)
        · refine lv_iinc (v := (nI (k + 1))) (lv' := [(2, .int (nI (k + 1))), (0, .ref (L 0 0)), (1, .int (nI i))]) hx hb dX7_drops_46 hl (k := 2) rfl (nI_1 _) (by decide) rfl (fun ls hl => ?_)
          refine lv_goto (tgt := 23) hx hb dX7_drops_49 (by decide) ?_
          exact ih23 (k + 1) Xa (by omega) hk (by rw [mm_dropL, ← eXa, if_neg c38]) _ _ hS _ (lv_sub hl [1, 2, 0] rfl)
        · refine lv_aload_n hx hb dX7_drops_41 rfl (lv_at hl 0 rfl) ?_
          refine lv_iload_n hx hb dX7_drops_42 rfl (lv_at hl 2 rfl) ?_
          refine db_cV (As := [.int (nI k)]) (rest := []) (st1 := []) hC hS 0 0 (mm_k 0 rfl) rfl db_c7 (c_X7_letsGo l Γ N L Xa hN sz k hIa hk) (cw_X7_letsGo (Nat.le_of_ble_eq_true rfl) (Nat.le_of_ble_eq_true rfl)) wd_579 wd_581 ws_38 rfl hl.1 rfl (Nat.le_of_ble_eq_true rfl) dX7_drops_43 ⟨Nat.le_of_ble_eq_true rfl, Nat.le_of_ble_eq_true rfl⟩ rfl (fun H locs hS => ?_)
          obtain ⟨X4, eX4⟩ : ∃ z, z = mm_lg N Xa k := ⟨_, rfl⟩
          rw [← eX4] at hS
          refine lv_iinc (v := (nI (k + 1))) (lv' := [(2, .int (nI (k + 1))), (0, .ref (L 0 0)), (1, .int (nI i))]) hx hb dX7_drops_46 hl (k := 2) rfl (nI_1 _) (by decide) rfl (fun ls hl => ?_)
          refine lv_goto (tgt := 23) hx hb dX7_drops_49 (by decide) ?_
          exact ih23 (k + 1) X4 (by omega) hk (by rw [mm_dropL, ← eXa, if_pos c38, eX4]) _ _ hS _ (lv_sub hl [1, 2, 0] rfl)
  exact K23 _ 0 X3 (Nat.le_refl _) (Nat.zero_le _) (by rw [eX3, eX2, eX1]; rfl) _ _ hS _ (lv_sub hl [1, 2, 0] rfl)
