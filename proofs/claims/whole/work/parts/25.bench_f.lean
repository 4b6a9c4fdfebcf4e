set_option maxHeartbeats 4000000 in
set_option maxRecDepth 100000 in
theorem c_X6_tick (l : Launch) (Γ : db_G) (N : Nat → Nat) (L : Nat → Nat → Nat) (cnt : Nat) (X : db_X) (hN : bb_N N) (sz tm th : Nat) (hI : bb_I N cnt sz X) (hcn : cnt < 2 ^ 31) (htm : X 6 0 2 = nI tm) (htm2 : tm + 40 < 2 ^ 31) (hth : X 9 0 1 = nI th) (hth2 : th < 2 ^ 31) : db_C l Γ yX6_tick cX6_tick 1 (some .int) (db_rm 6 138) [.ref (L 0 0)] L (bb_ok (N 0) cnt) (bb_cel Γ N L) X (some (.int ((bb_tick N X sz th).1))) ((bb_tick N X sz th).2) := by
  have hn0 : N 0 < 2 ^ 31 := by have := hN.2.1; omega
  have hn1 : N 1 < 2 ^ 31 := by have := hN.2.2.1; omega
  have hn2 : N 2 < 2 ^ 31 := by have := hN.2.2.2.1; omega
  have hn3 : N 3 < 2 ^ 31 := by have := hN.2.2.2.2; omega
  refine db_introI (by decide +kernel) (Nat.le_of_ble_eq_true rfl) ?_
  intro p e s m args below meth c A Q ls hC hS hl hret
  have hC : db_Cx p s m args meth c Γ RX6 cX6_tick 1 (some .int) := hC
  obtain ⟨hx, hb, hml, hr, hlocks, hown, hts, hK⟩ := id hC
  have hl : lv_has ls 1 [(0, .ref (L 0 0))] := hl
  refine lv_aload_n hx hb dX6_tick_0 rfl (lv_at hl 0 rfl) ?_
  refine db_get hx hb hts hown hK hS 0 0 (bb_k 0 rfl) rfl db_c6 6 (by decide) wd_178 rfl dX6_tick_1 ?_
  refine lv_aload_n hx hb dX6_tick_4 rfl (lv_at hl 0 rfl) ?_
  refine db_get hx hb hts hown hK hS 0 0 (bb_k 0 rfl) rfl db_c6 5 (by decide) wd_177 rfl dX6_tick_5 ?_
  refine lv_icmp_ge (tgt := 18) hx hb dX6_tick_8 (by decide) (fun c8 => ?_) (fun c8 => ?_)
  · refine lv_bipush (v := -2) hx hb dX6_tick_18 (by decide) ?_
    exact hret _ _ _ _ _ _ hS (by rw [bb_tick, if_pos c8]) (by rw [bb_tick, if_pos c8]) dX6_tick_20
  · refine lv_aload_n hx hb dX6_tick_11 rfl (lv_at hl 0 rfl) ?_
    refine db_cV (As := []) (rest := []) (st1 := [.int ((bb_pass N X sz th).1)]) hC hS 0 0 (bb_k 0 rfl) rfl db_c6 (c_X6_passTick l Γ N L cnt X hN sz tm th hI hcn htm htm2 hth hth2) (cw_X6_passTick (Nat.le_of_ble_eq_true rfl) (Nat.le_of_ble_eq_true rfl)) wd_304 wd_306 ws_15 rfl hl.1 rfl (Nat.le_of_ble_eq_true rfl) dX6_tick_12 ⟨Nat.le_of_ble_eq_true rfl, Nat.le_of_ble_eq_true rfl⟩ rfl (fun H locs hS => ?_)
    obtain ⟨X1, eX1⟩ : ∃ z, z = (bb_pass N X sz th).2 := ⟨_, rfl⟩
    rw [← eX1] at hS
    refine lv_goto (tgt := 20) hx hb dX6_tick_15 (by decide) ?_
    exact hret _ _ _ _ _ _ hS (by rw [bb_tick, if_neg c8]) (by rw [bb_tick, if_neg c8, eX1]) dX6_tick_20

set_option maxHeartbeats 4000000 in
set_option maxRecDepth 100000 in
theorem c_X6_run (l : Launch) (Γ : db_G) (N : Nat → Nat) (L : Nat → Nat → Nat) (cnt : Nat) (X : db_X) (hN : bb_N N) (n : Int32) (sz tm th : Nat) (hI : bb_I N cnt sz X) (hcn : cnt < 2 ^ 31) (htm : X 6 0 2 = nI tm) (htm2 : tm + 90000 < 2 ^ 31) (hth : X 9 0 1 = nI th) (hth2 : th + 3000 < 2 ^ 31) : db_C l Γ yX6_run cX6_run 4 (some .int) (db_rm 6 138) [.ref (L 0 0), .int n] L (bb_ok (N 0) cnt) (bb_cel Γ N L) X (some (.int ((bb_runC N X sz th n).1))) ((bb_runC N X sz th n).2) := by
  have hn0 : N 0 < 2 ^ 31 := by have := hN.2.1; omega
  have hn1 : N 1 < 2 ^ 31 := by have := hN.2.2.1; omega
  have hn2 : N 2 < 2 ^ 31 := by have := hN.2.2.2.1; omega
  have hn3 : N 3 < 2 ^ 31 := by have := hN.2.2.2.2; omega
  refine db_introI (by decide +kernel) (Nat.le_of_ble_eq_true rfl) ?_
  intro p e s m args below meth c A Q ls hC hS hl hret
  have hC : db_Cx p s m args meth c Γ RX6 cX6_run 4 (some .int) := hC
  obtain ⟨hx, hb, hml, hr, hlocks, hown, hts, hK⟩ := id hC
  have hl : lv_has ls 4 [(0, .ref (L 0 0)), (1, .int n)] := hl
  have K11 : ∀ (h11 : bb_runC N X sz th n = (-1, X)) (H : Heap) (locs : List Loc) (hS : db_S Γ A s.heap L (bb_ok (N 0) cnt) (bb_cel Γ N L) X H locs) (ls : Array Slot) (hl : lv_has ls 4 []), W p l e (db_rm 6 138) s m args below meth c H locs 0 0 Q (F0 m 11 ls []) := by
    intro  h11 H locs hS ls hl
    refine lv_iconst (v := -1) hx hb dX6_run_11 (by decide) ?_
    exact hret _ _ _ _ _ _ hS (by rw [h11]) (by rw [h11]) dX6_run_12
  refine lv_iload_n hx hb dX6_run_0 rfl (lv_at hl 1 rfl) ?_
  refine lv_if_lt (tgt := 11) hx hb dX6_run_1 (by decide) (fun c1 => ?_) (fun c1 => ?_)
  · exact K11  (by rw [bb_runC, if_pos c1]) _ _ hS _ (lv_sub hl [] rfl)
  · refine lv_iload_n hx hb dX6_run_4 rfl (lv_at hl 1 rfl) ?_
    refine lv_sipush (v := 2000) hx hb dX6_run_5 (by decide) ?_
    refine lv_icmp_le (tgt := 13) hx hb dX6_run_8 (by decide) (fun c8 => ?_) (fun c8 => ?_)
    · obtain ⟨nn, hnn0, rfl⟩ := nI_of (x := n) c1
      have hnk : nn ≤ 2000 := by
        have q := c8
        rw [show (2000 : Int32) = nI 2000 from rfl] at q
        exact (nI_leI hnn0 (by decide)).mp q
      have hnn : nn < 2 ^ 31 := hnn0
      have hN40 : N 0 ≤ 40 := hN.2.1
      refine lv_aload_n hx hb dX6_run_13 rfl (lv_at hl 0 rfl) ?_
      refine db_get hx hb hts hown hK hS 0 0 (bb_k 0 rfl) rfl db_c6 3 (by decide) wd_175 rfl dX6_run_14 ?_
      refine db_getN hx hb hts hown hK hS 6 0 (bb_k 6 rfl) rfl db_c1 2 (by decide) wn_151 rfl dX6_run_17 ?_
      refine lv_istore_n (lv' := [(2, .int (X 6 0 2)), (0, .ref (L 0 0)), (1, .int (nI nn))]) hx hb dX6_run_20 rfl hl (by decide) rfl (fun ls hl => ?_)
      refine lv_iconst (v := 0) hx hb dX6_run_21 (by decide) ?_
      refine lv_istore_n (lv' := [(3, .int 0), (2, .int (X 6 0 2)), (0, .ref (L 0 0)), (1, .int (nI nn))]) hx hb dX6_run_22 rfl hl (by decide) rfl (fun ls hl => ?_)
      have K23 : ∀ (q : Nat) (u : Nat) (Xa : db_X) (tu : Nat) (hq : nn + 1 - u ≤ q) (hu0 : u ≤ nn) (hIa : bb_I N cnt sz Xa) (htm1 : Xa 6 0 2 = nI tu) (htu : tu ≤ tm + 40 * u) (hth1 : Xa 9 0 1 = nI (th + u)) (hrem : bb_rn N sz (X 6 0 2) th nn 0 X = bb_rn N sz (X 6 0 2) th (nn - u) u Xa) (H : Heap) (locs : List Loc) (hS : db_S Γ A s.heap L (bb_ok (N 0) cnt) (bb_cel Γ N L) Xa H locs) (ls : Array Slot) (hl : lv_has ls 4 [(0, .ref (L 0 0)), (1, .int (nI nn)), (2, .int (X 6 0 2)), (3, .int (nI u))]), W p l e (db_rm 6 138) s m args below meth c H locs 0 0 Q (F0 m 23 ls []) := by
        intro q23
        induction q23 with
        | zero =>
          intro u Xa tu hq23 hu0 hIa htm1 htu hth1 hrem
          exact absurd hq23 (by omega)
        | succ q23 ih23 =>
          intro u Xa tu hq23 hu0 hIa htm1 htu hth1 hrem H locs hS ls hl
          refine lv_iload_n hx hb dX6_run_23 rfl (lv_at hl 3 rfl) ?_
          refine lv_iload_n hx hb dX6_run_24 rfl (lv_at hl 1 rfl) ?_
          refine lv_icmp_ge (tgt := 61) hx hb dX6_run_25 (by decide) (fun c25 => ?_) (fun c25 => ?_)
          · have hu : u = nn := by
              rcases Nat.lt_or_ge u (nn) with q9 | q9
              · exact absurd c25 (nI_ge q9 hnn)
              · omega
            refine lv_iload_n hx hb dX6_run_61 rfl (lv_at hl 3 rfl) ?_
            exact hret _ _ _ _ _ _ hS (by rw [bb_runC, if_neg c1, if_neg (fun q => absurd c8 (Int32.not_le.mpr q)), nI_clamp hnn, hrem, hu, Nat.sub_self]; rfl) (by rw [bb_runC, if_neg c1, if_neg (fun q => absurd c8 (Int32.not_le.mpr q)), nI_clamp hnn, hrem, hu, Nat.sub_self]; rfl) dX6_run_62
          · have hu : u < nn := by
              rcases Nat.lt_or_ge u (nn) with q9 | q9
              · exact q9
              · exact absurd (nI_le q9 (by omega)) c25
            refine lv_aload_n hx hb dX6_run_28 rfl (lv_at hl 0 rfl) ?_
            refine db_get hx hb hts hown hK hS 0 0 (bb_k 0 rfl) rfl db_c6 6 (by decide) wd_178 rfl dX6_run_29 ?_
            refine lv_aload_n hx hb dX6_run_32 rfl (lv_at hl 0 rfl) ?_
            refine db_get hx hb hts hown hK hS 0 0 (bb_k 0 rfl) rfl db_c6 5 (by decide) wd_177 rfl dX6_run_33 ?_
            refine lv_icmp_ge (tgt := 61) hx hb dX6_run_36 (by decide) (fun c36 => ?_) (fun c36 => ?_)
            · refine lv_iload_n hx hb dX6_run_61 rfl (lv_at hl 3 rfl) ?_
              exact hret _ _ _ _ _ _ hS (by rw [bb_runC, if_neg c1, if_neg (fun q => absurd c8 (Int32.not_le.mpr q)), nI_clamp hnn, hrem, show nn - u = (nn - (u + 1)) + 1 by omega, bb_rn, if_pos c36]) (by rw [bb_runC, if_neg c1, if_neg (fun q => absurd c8 (Int32.not_le.mpr q)), nI_clamp hnn, hrem, show nn - u = (nn - (u + 1)) + 1 by omega, bb_rn, if_pos c36]) dX6_run_62
            · refine lv_aload_n hx hb dX6_run_39 rfl (lv_at hl 0 rfl) ?_
              refine db_get hx hb hts hown hK hS 0 0 (bb_k 0 rfl) rfl db_c6 3 (by decide) wd_175 rfl dX6_run_40 ?_
              refine db_getN hx hb hts hown hK hS 6 0 (bb_k 6 rfl) rfl db_c1 2 (by decide) wn_151 rfl dX6_run_43 ?_
              refine lv_iload_n hx hb dX6_run_46 rfl (lv_at hl 2 rfl) ?_
              refine lv_icmp_ne (tgt := 61) hx hb dX6_run_47 (by decide) (fun c47 => ?_) (fun c47 => ?_)
              · refine lv_iload_n hx hb dX6_run_61 rfl (lv_at hl 3 rfl) ?_
                exact hret _ _ _ _ _ _ hS (by rw [bb_runC, if_neg c1, if_neg (fun q => absurd c8 (Int32.not_le.mpr q)), nI_clamp hnn, hrem, show nn - u = (nn - (u + 1)) + 1 by omega, bb_rn, if_neg c36, if_neg c47]) (by rw [bb_runC, if_neg c1, if_neg (fun q => absurd c8 (Int32.not_le.mpr q)), nI_clamp hnn, hrem, show nn - u = (nn - (u + 1)) + 1 by omega, bb_rn, if_neg c36, if_neg c47]) dX6_run_62
              · obtain ⟨tv, htv, etv⟩ := bb_late_tot (N := N) htm1 (N 0)
                refine lv_aload_n hx hb dX6_run_50 rfl (lv_at hl 0 rfl) ?_
                refine db_cV (As := []) (rest := []) (st1 := [.int ((bb_pass N Xa sz (th + u)).1)]) hC hS 0 0 (bb_k 0 rfl) rfl db_c6 (c_X6_passTick l Γ N L cnt Xa hN sz tu (th + u) hIa hcn htm1 (by omega) hth1 (by omega)) (cw_X6_passTick (Nat.le_of_ble_eq_true rfl) (Nat.le_of_ble_eq_true rfl)) wd_304 wd_306 ws_15 rfl hl.1 rfl (Nat.le_of_ble_eq_true rfl) dX6_run_51 ⟨Nat.le_of_ble_eq_true rfl, Nat.le_of_ble_eq_true rfl⟩ rfl (fun H locs hS => ?_)
                obtain ⟨X1, eX1⟩ : ∃ z, z = (bb_pass N Xa sz (th + u)).2 := ⟨_, rfl⟩
                rw [← eX1] at hS
                refine lv_pop hx hb dX6_run_54 rfl ?_
                refine lv_iinc (v := (nI (u + 1))) (lv' := [(3, .int (nI (u + 1))), (0, .ref (L 0 0)), (1, .int (nI nn)), (2, .int (X 6 0 2))]) hx hb dX6_run_55 hl (k := 3) rfl (nI_1 _) (by decide) rfl (fun ls hl => ?_)
                refine lv_goto (tgt := 23) hx hb dX6_run_58 (by decide) ?_
                exact ih23 (u + 1) X1 tv (by omega) hu (by rw [eX1]; exact bb_I.pass hN hIa) (by rw [eX1, bb_pass_6]; exact etv) (by omega) (by rw [eX1, bb_pass_9, hth1, nI_1]; rfl) (by rw [hrem, show nn - u = (nn - (u + 1)) + 1 by omega, bb_rn, if_neg c36, if_pos c47, eX1]) _ _ hS _ (lv_sub hl [1, 2, 3, 0] rfl)
      exact K23 _ 0 X tm (Nat.le_refl _) (Nat.zero_le _) hI htm (by omega) hth rfl _ _ hS _ (lv_sub hl [2, 3, 1, 0] rfl)
    · exact K11  (by rw [bb_runC, if_neg c1, if_pos (Int32.not_le.mp c8)]) _ _ hS _ (lv_sub hl [] rfl)

set_option maxHeartbeats 4000000 in
set_option maxRecDepth 100000 in
theorem c_X6_effective (l : Launch) (Γ : db_G) (N : Nat → Nat) (L : Nat → Nat → Nat) (cnt : Nat) (X : db_X) (hN : bb_N N) (t : Int32) (sz : Nat) (hI : bb_I N cnt sz X) : db_C l Γ yX6_effective cX6_effective 2 (some .int) (db_rm 2 49) [.ref (L 0 0), .int t] L (bb_ok (N 0) cnt) (bb_cel Γ N L) X (some (.int ((bb_eff N X t).1))) ((bb_eff N X t).2) := by
  have hn0 : N 0 < 2 ^ 31 := by have := hN.2.1; omega
  have hn1 : N 1 < 2 ^ 31 := by have := hN.2.2.1; omega
  have hn2 : N 2 < 2 ^ 31 := by have := hN.2.2.2.1; omega
  have hn3 : N 3 < 2 ^ 31 := by have := hN.2.2.2.2; omega
  refine db_introI (by decide +kernel) (Nat.le_of_ble_eq_true rfl) ?_
  intro p e s m args below meth c A Q ls hC hS hl hret
  have hC : db_Cx p s m args meth c Γ RX6 cX6_effective 2 (some .int) := hC
  obtain ⟨hx, hb, hml, hr, hlocks, hown, hts, hK⟩ := id hC
  have hl : lv_has ls 2 [(0, .ref (L 0 0)), (1, .int t)] := hl
  refine lv_aload_n hx hb dX6_effective_0 rfl (lv_at hl 0 rfl) ?_
  refine lv_iload_n hx hb dX6_effective_1 rfl (lv_at hl 1 rfl) ?_
  refine db_cV (As := [.int t]) (rest := []) (st1 := [.int (bb_hasJob N X t)]) hC hS 0 0 (bb_k 0 rfl) rfl db_c6 (c_X6_hasJob l Γ N L cnt X hN t ) (cw_X6_hasJob (Nat.le_of_ble_eq_true rfl) (Nat.le_of_ble_eq_true rfl)) wd_369 wd_371 ws_28 rfl hl.1 rfl (Nat.le_of_ble_eq_true rfl) dX6_effective_2 ⟨Nat.le_of_ble_eq_true rfl, Nat.le_of_ble_eq_true rfl⟩ rfl (fun H locs hS => ?_)
  refine lv_if_ne (tgt := 10) hx hb dX6_effective_5 (by decide) (fun c5 => ?_) (fun c5 => ?_)
  · obtain ⟨j, hj, rfl⟩ := bb_hasJob_ix hn0 c5
    refine lv_aload_n hx hb dX6_effective_10 rfl (lv_at hl 0 rfl) ?_
    refine db_cV (As := []) (rest := []) (st1 := []) hC hS 0 0 (bb_k 0 rfl) rfl db_c6 (c_X6_inheritDeadlines l Γ N L cnt X hN sz hI) (cw_X6_inheritDeadlines (Nat.le_of_ble_eq_true rfl) (Nat.le_of_ble_eq_true rfl)) wd_276 wd_278 ws_10 rfl hl.1 rfl (Nat.le_of_ble_eq_true rfl) dX6_effective_11 ⟨Nat.le_of_ble_eq_true rfl, Nat.le_of_ble_eq_true rfl⟩ rfl (fun H locs hS => ?_)
    obtain ⟨X1, eX1⟩ : ∃ z, z = bb_inh N X := ⟨_, rfl⟩
    rw [← eX1] at hS
    refine lv_aload_n hx hb dX6_effective_14 rfl (lv_at hl 0 rfl) ?_
    refine db_get hx hb hts hown hK hS 0 0 (bb_k 0 rfl) rfl db_c6 0 (by decide) wd_172 rfl dX6_effective_15 ?_
    refine lv_iload_n hx hb dX6_effective_18 rfl (lv_at hl 1 rfl) ?_
    refine db_ald hx hb hK hS 11 0 (bb_k 11 rfl) 2 rfl rfl j rfl hj hn0 rfl dX6_effective_19 ?_
    refine db_getN hx hb hts hown hK hS 1 j (bb_kT hj) rfl db_c5 0 (by decide) wn_71 rfl dX6_effective_20 ?_
    refine db_getN hx hb hts hown hK hS 2 j (bb_kJ hj) rfl db_c0 5 (by decide) wn_52 rfl dX6_effective_23 ?_
    exact hret _ _ _ _ _ _ hS (by rw [bb_eff, if_neg c5, db_nIc hj hn0, ← eX1]) (by rw [bb_eff, if_neg c5, ← eX1]) dX6_effective_26
  · refine lv_iconst (v := -1) hx hb dX6_effective_8 (by decide) ?_
    exact hret _ _ _ _ _ _ hS (by rw [bb_eff, if_pos c5]) (by rw [bb_eff, if_pos c5]) dX6_effective_9

set_option maxHeartbeats 4000000 in
set_option maxRecDepth 100000 in
theorem c_X6_missCount (l : Launch) (Γ : db_G) (N : Nat → Nat) (L : Nat → Nat → Nat) (cnt : Nat) (X : db_X) (hN : bb_N N) : db_C l Γ yX6_missCount cX6_missCount 1 (some .int) (db_rm 0 0) [.ref (L 0 0)] L (bb_ok (N 0) cnt) (bb_cel Γ N L) X (some (.int (X 6 0 2))) X := by
  have hn0 : N 0 < 2 ^ 31 := by have := hN.2.1; omega
  have hn1 : N 1 < 2 ^ 31 := by have := hN.2.2.1; omega
  have hn2 : N 2 < 2 ^ 31 := by have := hN.2.2.2.1; omega
  have hn3 : N 3 < 2 ^ 31 := by have := hN.2.2.2.2; omega
  refine db_introI (by decide +kernel) (Nat.le_of_ble_eq_true rfl) ?_
  intro p e s m args below meth c A Q ls hC hS hl hret
  have hC : db_Cx p s m args meth c Γ RX6 cX6_missCount 1 (some .int) := hC
  obtain ⟨hx, hb, hml, hr, hlocks, hown, hts, hK⟩ := id hC
  have hl : lv_has ls 1 [(0, .ref (L 0 0))] := hl
  refine lv_aload_n hx hb dX6_missCount_0 rfl (lv_at hl 0 rfl) ?_
  refine db_get hx hb hts hown hK hS 0 0 (bb_k 0 rfl) rfl db_c6 3 (by decide) wd_175 rfl dX6_missCount_1 ?_
  refine db_getN hx hb hts hown hK hS 6 0 (bb_k 6 rfl) rfl db_c1 2 (by decide) wn_151 rfl dX6_missCount_4 ?_
  exact hret _ _ _ _ _ _ hS (rfl) (rfl) dX6_missCount_7

set_option maxHeartbeats 4000000 in
set_option maxRecDepth 100000 in
theorem c_X6_ran (l : Launch) (Γ : db_G) (N : Nat → Nat) (L : Nat → Nat → Nat) (cnt : Nat) (X : db_X) (hN : bb_N N) (k : Int32) (th : Nat) (hth : X 9 0 1 = nI th) (hth2 : th < 2 ^ 31) : db_C l Γ yX6_ran cX6_ran 2 (some .int) (db_rm 1 21) [.ref (L 0 0), .int k] L (bb_ok (N 0) cnt) (bb_cel Γ N L) X (some (.int (bb_back X th k))) X := by
  have hn0 : N 0 < 2 ^ 31 := by have := hN.2.1; omega
  have hn1 : N 1 < 2 ^ 31 := by have := hN.2.2.1; omega
  have hn2 : N 2 < 2 ^ 31 := by have := hN.2.2.2.1; omega
  have hn3 : N 3 < 2 ^ 31 := by have := hN.2.2.2.2; omega
  refine db_introI (by decide +kernel) (Nat.le_of_ble_eq_true rfl) ?_
  intro p e s m args below meth c A Q ls hC hS hl hret
  have hC : db_Cx p s m args meth c Γ RX6 cX6_ran 2 (some .int) := hC
  obtain ⟨hx, hb, hml, hr, hlocks, hown, hts, hK⟩ := id hC
  have hl : lv_has ls 2 [(0, .ref (L 0 0)), (1, .int k)] := hl
  refine lv_aload_n hx hb dX6_ran_0 rfl (lv_at hl 0 rfl) ?_
  refine db_get hx hb hts hown hK hS 0 0 (bb_k 0 rfl) rfl db_c6 4 (by decide) wd_176 rfl dX6_ran_1 ?_
  refine lv_iload_n hx hb dX6_ran_4 rfl (lv_at hl 1 rfl) ?_
  refine db_cVN (As := [.int k]) (rest := []) (st1 := [.int (bb_back X th k)]) hC hS 9 0 (bb_k 9 rfl) rfl db_c2 (c_X2_runnerBack l Γ N L cnt X hN k th hth hth2) (cw_X2_runnerBack (Nat.le_of_ble_eq_true rfl) (Nat.le_of_ble_eq_true rfl)) wn_361 wd_363 ws_27 rfl hl.1 rfl (Nat.le_of_ble_eq_true rfl) dX6_ran_5 ⟨Nat.le_of_ble_eq_true rfl, Nat.le_of_ble_eq_true rfl⟩ rfl (fun H locs hS => ?_)
  exact hret _ _ _ _ _ _ hS (rfl) (rfl) dX6_ran_8

set_option maxHeartbeats 4000000 in
set_option maxRecDepth 100000 in
theorem c_X6_miss (l : Launch) (Γ : db_G) (N : Nat → Nat) (L : Nat → Nat → Nat) (cnt : Nat) (X : db_X) (hN : bb_N N) (i : Int32) (w : Int32) : db_C l Γ yX6_miss cX6_miss 3 (some .int) (db_rm 1 21) [.ref (L 0 0), .int i, .int w] L (bb_ok (N 0) cnt) (bb_cel Γ N L) X (some (.int (bb_miss N X i w))) X := by
  have hn0 : N 0 < 2 ^ 31 := by have := hN.2.1; omega
  have hn1 : N 1 < 2 ^ 31 := by have := hN.2.2.1; omega
  have hn2 : N 2 < 2 ^ 31 := by have := hN.2.2.2.1; omega
  have hn3 : N 3 < 2 ^ 31 := by have := hN.2.2.2.2; omega
  refine db_introI (by decide +kernel) (Nat.le_of_ble_eq_true rfl) ?_
  intro p e s m args below meth c A Q ls hC hS hl hret
  have hC : db_Cx p s m args meth c Γ RX6 cX6_miss 3 (some .int) := hC
  obtain ⟨hx, hb, hml, hr, hlocks, hown, hts, hK⟩ := id hC
  have hl : lv_has ls 3 [(0, .ref (L 0 0)), (1, .int i), (2, .int w)] := hl
  refine lv_aload_n hx hb dX6_miss_0 rfl (lv_at hl 0 rfl) ?_
  refine db_get hx hb hts hown hK hS 0 0 (bb_k 0 rfl) rfl db_c6 3 (by decide) wd_175 rfl dX6_miss_1 ?_
  refine lv_iload_n hx hb dX6_miss_4 rfl (lv_at hl 1 rfl) ?_
  refine db_cVN (As := [.int i]) (rest := []) (st1 := [.int (bb_keeps N X i)]) hC hS 6 0 (bb_k 6 rfl) rfl db_c1 (c_X1_keeps l Γ N L cnt X hN i) (cw_X1_keeps (Nat.le_of_ble_eq_true rfl) (Nat.le_of_ble_eq_true rfl)) wn_401 wd_403 ws_29 rfl hl.1 rfl (Nat.le_of_ble_eq_true rfl) dX6_miss_5 ⟨Nat.le_of_ble_eq_true rfl, Nat.le_of_ble_eq_true rfl⟩ rfl (fun H locs hS => ?_)
  refine lv_if_ne (tgt := 13) hx hb dX6_miss_8 (by decide) (fun c8 => ?_) (fun c8 => ?_)
  · obtain ⟨j, hj, rfl⟩ := bb_keeps_ix hn3 c8
    refine lv_iload_n hx hb dX6_miss_13 rfl (lv_at hl 2 rfl) ?_
    by_cases w14_0 : w = 0
    · refine lv_lookup (tgt := 40) hx hb dX6_miss_14 (by decide) (off := 26) (by rw [w14_0]; rfl) (by decide) ?_
      refine lv_aload_n hx hb dX6_miss_40 rfl (lv_at hl 0 rfl) ?_
      refine db_get hx hb hts hown hK hS 0 0 (bb_k 0 rfl) rfl db_c6 3 (by decide) wd_175 rfl dX6_miss_41 ?_
      refine db_getN hx hb hts hown hK hS 6 0 (bb_k 6 rfl) rfl db_c1 0 (by decide) wn_147 rfl dX6_miss_44 ?_
      refine lv_iload_n hx hb dX6_miss_47 rfl (lv_at hl 1 rfl) ?_
      refine db_ild hx hb hK hS 7 0 (bb_k 7 rfl) rfl j rfl hj hn3 dX6_miss_48 ?_
      exact hret _ _ _ _ _ _ hS (by simp [bb_miss, c8, w14_0, db_nIc hj hn3]) (rfl) dX6_miss_49
    by_cases w14_1 : w = 1
    · refine lv_lookup (tgt := 50) hx hb dX6_miss_14 (by decide) (off := 36) (by rw [w14_1]; rfl) (by decide) ?_
      refine lv_aload_n hx hb dX6_miss_50 rfl (lv_at hl 0 rfl) ?_
      refine db_get hx hb hts hown hK hS 0 0 (bb_k 0 rfl) rfl db_c6 3 (by decide) wd_175 rfl dX6_miss_51 ?_
      refine db_getN hx hb hts hown hK hS 6 0 (bb_k 6 rfl) rfl db_c1 1 (by decide) wn_149 rfl dX6_miss_54 ?_
      refine lv_iload_n hx hb dX6_miss_57 rfl (lv_at hl 1 rfl) ?_
      refine db_ild hx hb hK hS 8 0 (bb_k 8 rfl) rfl j rfl hj hn3 dX6_miss_58 ?_
      exact hret _ _ _ _ _ _ hS (by simp [bb_miss, c8, w14_0, w14_1, db_nIc hj hn3]) (rfl) dX6_miss_59
    refine lv_lookup (tgt := 60) hx hb dX6_miss_14 (by decide) (off := 46) (by show Op.lookupswitch.offset [(0, 26), (1, 36)] _ _ = _; rw [lv_osw (a := 0) w14_0 (by decide), lv_osw (a := 1) w14_1 (by decide)]; rfl) (by decide) ?_
    refine lv_iconst (v := -1) hx hb dX6_miss_60 (by decide) ?_
    exact hret _ _ _ _ _ _ hS (by simp [bb_miss, c8, w14_0, w14_1, db_nIc hj hn3]) (rfl) dX6_miss_61
  · refine lv_iconst (v := -1) hx hb dX6_miss_11 (by decide) ?_
    exact hret _ _ _ _ _ _ hS (by simp [bb_miss, c8]) (rfl) dX6_miss_12

set_option maxHeartbeats 4000000 in
set_option maxRecDepth 100000 in
theorem c_X4_sizeOf (l : Launch) (Γ : db_G) (N : Nat → Nat) (L : Nat → Nat → Nat) (cnt : Nat) (X : db_X) (hN : bb_N N) (t : Int32) (sz : Nat) (hI : bb_I N cnt sz X) (hcn : cnt < 2 ^ 31) : db_C l Γ yX4_sizeOf cX4_sizeOf 4 (some .int) (db_rm 0 0) [.ref (L 4 0), .int t] L (bb_ok (N 0) cnt) (bb_cel Γ N L) X (some (.int (bb_sizeOf X sz t))) X := by
  have hn0 : N 0 < 2 ^ 31 := by have := hN.2.1; omega
  have hn1 : N 1 < 2 ^ 31 := by have := hN.2.2.1; omega
  have hn2 : N 2 < 2 ^ 31 := by have := hN.2.2.2.1; omega
  have hn3 : N 3 < 2 ^ 31 := by have := hN.2.2.2.2; omega
  refine db_introI (by decide +kernel) (Nat.le_of_ble_eq_true rfl) ?_
  intro p e s m args below meth c A Q ls hC hS hl hret
  have hC : db_Cx p s m args meth c Γ RX4 cX4_sizeOf 4 (some .int) := hC
  obtain ⟨hx, hb, hml, hr, hlocks, hown, hts, hK⟩ := id hC
  have hl : lv_has ls 4 [(0, .ref (L 4 0)), (1, .int t)] := hl
  have hsz : sz < 2 ^ 31 := by have := hI.2.2.2.1; omega
  refine lv_iconst (v := 0) hx hb dX4_sizeOf_0 (by decide) ?_
  refine lv_istore_n (lv' := [(2, .int 0), (0, .ref (L 4 0)), (1, .int t)]) hx hb dX4_sizeOf_1 rfl hl (by decide) rfl (fun ls hl => ?_)
  refine lv_iconst (v := 0) hx hb dX4_sizeOf_2 (by decide) ?_
  refine lv_istore_n (lv' := [(3, .int 0), (2, .int 0), (0, .ref (L 4 0)), (1, .int t)]) hx hb dX4_sizeOf_3 rfl hl (by decide) rfl (fun ls hl => ?_)
  have K4 : ∀ (q : Nat) (u : Nat) (acc : Int32) (hq : sz + 1 - u ≤ q) (hu0 : u ≤ sz) (hacc : acc = db_cnt (fun p => decide (bb_sec X p 0 = t)) u) (H : Heap) (locs : List Loc) (hS : db_S Γ A s.heap L (bb_ok (N 0) cnt) (bb_cel Γ N L) X H locs) (ls : Array Slot) (hl : lv_has ls 4 [(0, .ref (L 4 0)), (1, .int t), (2, .int acc), (3, .int (nI u))]), W p l e (db_rm 0 0) s m args below meth c H locs 0 0 Q (F0 m 4 ls []) := by
    intro q4
    induction q4 with
    | zero =>
      intro u acc hq4 hu0 hacc
      exact absurd hq4 (by omega)
    | succ q4 ih4 =>
      intro u acc hq4 hu0 hacc H locs hS ls hl
      refine lv_iload_n hx hb dX4_sizeOf_4 rfl (lv_at hl 3 rfl) ?_
      refine lv_aload_n hx hb dX4_sizeOf_5 rfl (lv_at hl 0 rfl) ?_
      refine db_get hx hb hts hown hK hS 4 0 (bb_k 4 rfl) rfl db_c4 1 (by decide) wd_132 rfl dX4_sizeOf_6 ?_
      rw [show X 4 0 1 = nI sz from hI.2.2.1]
      refine lv_icmp_ge (tgt := 34) hx hb dX4_sizeOf_9 (by decide) (fun c9 => ?_) (fun c9 => ?_)
      · have hu : u = sz := by
          rcases Nat.lt_or_ge u (sz) with q9 | q9
          · exact absurd c9 (nI_ge q9 hsz)
          · omega
        refine lv_iload_n hx hb dX4_sizeOf_34 rfl (lv_at hl 2 rfl) ?_
        exact hret _ _ _ _ _ _ hS (by rw [hacc, hu]; rfl) (rfl) dX4_sizeOf_35
      · have hu : u < sz := by
          rcases Nat.lt_or_ge u (sz) with q9 | q9
          · exact q9
          · exact absurd (nI_le q9 (by omega)) c9
        have hlk : db_in (bb_sec X u 2) (N 1) := (hI.2.2.2.2 u hu).2
        refine lv_aload_n hx hb dX4_sizeOf_12 rfl (lv_at hl 0 rfl) ?_
        refine db_get hx hb hts hown hK hS 4 0 (bb_k 4 rfl) rfl db_c4 0 (by decide) wd_130 rfl dX4_sizeOf_13 ?_
        refine lv_iload_n hx hb dX4_sizeOf_16 rfl (lv_at hl 3 rfl) ?_
        refine db_ald hx hb hK hS 5 0 (bb_k 5 rfl) 3 rfl rfl u rfl (Nat.lt_of_lt_of_le hu hI.2.2.2.1) hn2 (bb_rowf (hI.2.2.2.2 u hu).1 hcn) dX4_sizeOf_17 ?_
        refine db_getN hx hb hts hown hK hS 12 ((X 5 0 u).toNatClampNeg) (bb_kS ((hI.2.2.2.2 u hu).1.lt hcn)) rfl db_c3 0 (by decide) wn_224 rfl dX4_sizeOf_18 ?_
        refine lv_iload_n hx hb dX4_sizeOf_21 rfl (lv_at hl 1 rfl) ?_
        refine lv_icmp_ne (tgt := 28) hx hb dX4_sizeOf_22 (by decide) (fun c22 => ?_) (fun c22 => ?_)
        · have c22 : ¬ bb_sec X u 0 = t := c22
          refine lv_iinc (v := (nI (u + 1))) (lv' := [(3, .int (nI (u + 1))), (0, .ref (L 4 0)), (1, .int t), (2, .int acc)]) hx hb dX4_sizeOf_28 hl (k := 3) rfl (nI_1 _) (by decide) rfl (fun ls hl => ?_)
          refine lv_goto (tgt := 4) hx hb dX4_sizeOf_31 (by decide) ?_
          exact ih4 (u + 1) acc (by omega) hu (by rw [db_cnt, ← hacc, if_neg (by simpa using c22)]) _ _ hS _ (lv_sub hl [1, 2, 3, 0] rfl)
        · have c22 : bb_sec X u 0 = t := c22
          refine lv_iinc (v := (acc + 1)) (lv' := [(2, .int (acc + 1)), (0, .ref (L 4 0)), (1, .int t), (3, .int (nI u))]) hx hb dX4_sizeOf_25 hl (k := 2) rfl rfl (by decide) rfl (fun ls hl => ?_)
          refine lv_iinc (v := (nI (u + 1))) (lv' := [(3, .int (nI (u + 1))), (2, .int (acc + 1)), (0, .ref (L 4 0)), (1, .int t)]) hx hb dX4_sizeOf_28 hl (k := 3) rfl (nI_1 _) (by decide) rfl (fun ls hl => ?_)
          refine lv_goto (tgt := 4) hx hb dX4_sizeOf_31 (by decide) ?_
          exact ih4 (u + 1) (acc + 1) (by omega) hu (by rw [db_cnt, ← hacc, if_pos (decide_eq_true c22)]) _ _ hS _ (lv_sub hl [2, 3, 1, 0] rfl)
  exact K4 _ 0 0 (Nat.le_refl _) (Nat.zero_le _) rfl _ _ hS _ (lv_sub hl [2, 3, 1, 0] rfl)

set_option maxHeartbeats 4000000 in
set_option maxRecDepth 100000 in
theorem c_X6_task (l : Launch) (Γ : db_G) (N : Nat → Nat) (L : Nat → Nat → Nat) (cnt : Nat) (X : db_X) (hN : bb_N N) (t : Int32) (w : Int32) (sz : Nat) (hI : bb_I N cnt sz X) (hcn : cnt < 2 ^ 31) : db_C l Γ yX6_task cX6_task 4 (some .int) (db_rm 1 23) [.ref (L 0 0), .int t, .int w] L (bb_ok (N 0) cnt) (bb_cel Γ N L) X (some (.int (bb_task N X sz t w))) X := by
  have hn0 : N 0 < 2 ^ 31 := by have := hN.2.1; omega
  have hn1 : N 1 < 2 ^ 31 := by have := hN.2.2.1; omega
  have hn2 : N 2 < 2 ^ 31 := by have := hN.2.2.2.1; omega
  have hn3 : N 3 < 2 ^ 31 := by have := hN.2.2.2.2; omega
  refine db_introI (by decide +kernel) (Nat.le_of_ble_eq_true rfl) ?_
  intro p e s m args below meth c A Q ls hC hS hl hret
  have hC : db_Cx p s m args meth c Γ RX6 cX6_task 4 (some .int) := hC
  obtain ⟨hx, hb, hml, hr, hlocks, hown, hts, hK⟩ := id hC
  have hl : lv_has ls 4 [(0, .ref (L 0 0)), (1, .int t), (2, .int w)] := hl
  refine lv_aload_n hx hb dX6_task_0 rfl (lv_at hl 0 rfl) ?_
  refine lv_iload_n hx hb dX6_task_1 rfl (lv_at hl 1 rfl) ?_
  refine db_cV (As := [.int t]) (rest := []) (st1 := [.int (bb_isLive N X t)]) hC hS 0 0 (bb_k 0 rfl) rfl db_c6 (c_X6_isLive l Γ N L cnt X hN t ) (cw_X6_isLive (Nat.le_of_ble_eq_true rfl) (Nat.le_of_ble_eq_true rfl)) wd_209 wd_211 ws_1 rfl hl.1 rfl (Nat.le_of_ble_eq_true rfl) dX6_task_2 ⟨Nat.le_of_ble_eq_true rfl, Nat.le_of_ble_eq_true rfl⟩ rfl (fun H locs hS => ?_)
  refine lv_if_ne (tgt := 10) hx hb dX6_task_5 (by decide) (fun c5 => ?_) (fun c5 => ?_)
  · obtain ⟨j, hj, rfl⟩ := bb_isLive_ix hn0 c5
    refine lv_aload_n hx hb dX6_task_10 rfl (lv_at hl 0 rfl) ?_
    refine db_get hx hb hts hown hK hS 0 0 (bb_k 0 rfl) rfl db_c6 0 (by decide) wd_172 rfl dX6_task_11 ?_
    refine lv_iload_n hx hb dX6_task_14 rfl (lv_at hl 1 rfl) ?_
    refine db_ald hx hb hK hS 11 0 (bb_k 11 rfl) 2 rfl rfl j rfl hj hn0 rfl dX6_task_15 ?_
    refine lv_astore_n (lv' := [(3, .ref (L 1 j)), (0, .ref (L 0 0)), (1, .int (nI j)), (2, .int w)]) hx hb dX6_task_16 rfl hl (by decide) rfl (fun ls hl => ?_)
    refine lv_iload_n hx hb dX6_task_17 rfl (lv_at hl 3 rfl) ?_
    by_cases w18_0 : w = 0
    · refine lv_tableIn (tgt := 76) (off := 58) hx hb dX6_task_18 (by rw [w18_0]; decide) (by rw [w18_0]; decide) (by rw [w18_0]; decide) (by decide) ?_
      refine lv_aload_n hx hb dX6_task_76 rfl (lv_at hl 0 rfl) ?_
      refine db_getN hx hb hts hown hK hS 1 j (bb_kT hj) rfl db_c5 2 (by decide) wn_75 rfl dX6_task_77 ?_
      exact hret _ _ _ _ _ _ hS (by rw [bb_task, if_neg c5, if_pos w18_0, db_nIc hj hn0]) (rfl) dX6_task_80
    by_cases w18_1 : w = 1
    · refine lv_tableIn (tgt := 81) (off := 63) hx hb dX6_task_18 (by rw [w18_1]; decide) (by rw [w18_1]; decide) (by rw [w18_1]; decide) (by decide) ?_
      refine lv_aload_n hx hb dX6_task_81 rfl (lv_at hl 0 rfl) ?_
      refine db_getN hx hb hts hown hK hS 1 j (bb_kT hj) rfl db_c5 3 (by decide) wn_77 rfl dX6_task_82 ?_
      exact hret _ _ _ _ _ _ hS (by rw [bb_task, if_neg c5, if_neg w18_0, if_pos w18_1, db_nIc hj hn0]) (rfl) dX6_task_85
    by_cases w18_2 : w = 2
    · refine lv_tableIn (tgt := 86) (off := 68) hx hb dX6_task_18 (by rw [w18_2]; decide) (by rw [w18_2]; decide) (by rw [w18_2]; decide) (by decide) ?_
      refine lv_aload_n hx hb dX6_task_86 rfl (lv_at hl 0 rfl) ?_
      refine db_getN hx hb hts hown hK hS 1 j (bb_kT hj) rfl db_c5 4 (by decide) wn_79 rfl dX6_task_87 ?_
      exact hret _ _ _ _ _ _ hS (by rw [bb_task, if_neg c5, if_neg w18_0, if_neg w18_1, if_pos w18_2, db_nIc hj hn0]) (rfl) dX6_task_90
    by_cases w18_3 : w = 3
    · refine lv_tableIn (tgt := 91) (off := 73) hx hb dX6_task_18 (by rw [w18_3]; decide) (by rw [w18_3]; decide) (by rw [w18_3]; decide) (by decide) ?_
      refine lv_aload_n hx hb dX6_task_91 rfl (lv_at hl 0 rfl) ?_
      refine db_getN hx hb hts hown hK hS 1 j (bb_kT hj) rfl db_c5 5 (by decide) wn_81 rfl dX6_task_92 ?_
      exact hret _ _ _ _ _ _ hS (by rw [bb_task, if_neg c5, if_neg w18_0, if_neg w18_1, if_neg w18_2, if_pos w18_3, db_nIc hj hn0]) (rfl) dX6_task_95
    by_cases w18_4 : w = 4
    · refine lv_tableIn (tgt := 96) (off := 78) hx hb dX6_task_18 (by rw [w18_4]; decide) (by rw [w18_4]; decide) (by rw [w18_4]; decide) (by decide) ?_
      refine lv_aload_n hx hb dX6_task_96 rfl (lv_at hl 1 rfl) ?_
      refine db_get hx hb hts hown hK hS 0 0 (bb_k 0 rfl) rfl db_c6 2 (by decide) wd_174 rfl dX6_task_97 ?_
      refine lv_iload_n hx hb dX6_task_100 rfl (lv_at hl 2 rfl) ?_
      refine db_cVN (As := [.int (nI j)]) (rest := []) (st1 := [.int (bb_sizeOf X sz (nI j))]) hC hS 4 0 (bb_k 4 rfl) rfl db_c4 (c_X4_sizeOf l Γ N L cnt X hN (nI j) sz hI hcn) (cw_X4_sizeOf (Nat.le_of_ble_eq_true rfl) (Nat.le_of_ble_eq_true rfl)) wn_409 wd_411 ws_30 rfl hl.1 rfl (Nat.le_of_ble_eq_true rfl) dX6_task_101 ⟨Nat.le_of_ble_eq_true rfl, Nat.le_of_ble_eq_true rfl⟩ rfl (fun H locs hS => ?_)
      exact hret _ _ _ _ _ _ hS (by rw [bb_task, if_neg c5, if_neg w18_0, if_neg w18_1, if_neg w18_2, if_neg w18_3, if_pos w18_4]) (rfl) dX6_task_104
    by_cases w18_5 : w = 5
    · refine lv_tableIn (tgt := 105) (off := 87) hx hb dX6_task_18 (by rw [w18_5]; decide) (by rw [w18_5]; decide) (by rw [w18_5]; decide) (by decide) ?_
      refine lv_aload_n hx hb dX6_task_105 rfl (lv_at hl 0 rfl) ?_
      refine db_getN hx hb hts hown hK hS 1 j (bb_kT hj) rfl db_c5 6 (by decide) wn_83 rfl dX6_task_106 ?_
      exact hret _ _ _ _ _ _ hS (by rw [bb_task, if_neg c5, if_neg w18_0, if_neg w18_1, if_neg w18_2, if_neg w18_3, if_neg w18_4, if_pos w18_5, db_nIc hj hn0]) (rfl) dX6_task_109
    by_cases w18_6 : w = 6
    · refine lv_tableIn (tgt := 110) (off := 92) hx hb dX6_task_18 (by rw [w18_6]; decide) (by rw [w18_6]; decide) (by rw [w18_6]; decide) (by decide) ?_
      refine lv_aload_n hx hb dX6_task_110 rfl (lv_at hl 0 rfl) ?_
      refine db_getN hx hb hts hown hK hS 1 j (bb_kT hj) rfl db_c5 7 (by decide) wn_85 rfl dX6_task_111 ?_
      exact hret _ _ _ _ _ _ hS (by rw [bb_task, if_neg c5, if_neg w18_0, if_neg w18_1, if_neg w18_2, if_neg w18_3, if_neg w18_4, if_neg w18_5, if_pos w18_6, db_nIc hj hn0]) (rfl) dX6_task_114
    by_cases w18_7 : w = 7
    · refine lv_tableIn (tgt := 115) (off := 97) hx hb dX6_task_18 (by rw [w18_7]; decide) (by rw [w18_7]; decide) (by rw [w18_7]; decide) (by decide) ?_
      refine lv_aload_n hx hb dX6_task_115 rfl (lv_at hl 0 rfl) ?_
      refine db_getN hx hb hts hown hK hS 1 j (bb_kT hj) rfl db_c5 8 (by decide) wn_87 rfl dX6_task_116 ?_
      exact hret _ _ _ _ _ _ hS (by rw [bb_task, if_neg c5, if_neg w18_0, if_neg w18_1, if_neg w18_2, if_neg w18_3, if_neg w18_4, if_neg w18_5, if_neg w18_6, if_pos w18_7, db_nIc hj hn0]) (rfl) dX6_task_119
    by_cases w18_8 : w = 8
    · refine lv_tableIn (tgt := 120) (off := 102) hx hb dX6_task_18 (by rw [w18_8]; decide) (by rw [w18_8]; decide) (by rw [w18_8]; decide) (by decide) ?_
      refine lv_aload_n hx hb dX6_task_120 rfl (lv_at hl 0 rfl) ?_
      refine db_getN hx hb hts hown hK hS 1 j (bb_kT hj) rfl db_c5 9 (by decide) wn_89 rfl dX6_task_121 ?_
      exact hret _ _ _ _ _ _ hS (by rw [bb_task, if_neg c5, if_neg w18_0, if_neg w18_1, if_neg w18_2, if_neg w18_3, if_neg w18_4, if_neg w18_5, if_neg w18_6, if_neg w18_7, if_pos w18_8, db_nIc hj hn0]) (rfl) dX6_task_124
    by_cases w18_9 : w = 9
    · refine lv_tableIn (tgt := 125) (off := 107) hx hb dX6_task_18 (by rw [w18_9]; decide) (by rw [w18_9]; decide) (by rw [w18_9]; decide) (by decide) ?_
      refine lv_aload_n hx hb dX6_task_125 rfl (lv_at hl 0 rfl) ?_
      refine db_getN hx hb hts hown hK hS 1 j (bb_kT hj) rfl db_c5 10 (by decide) wn_91 rfl dX6_task_126 ?_
      exact hret _ _ _ _ _ _ hS (by rw [bb_task, if_neg c5, if_neg w18_0, if_neg w18_1, if_neg w18_2, if_neg w18_3, if_neg w18_4, if_neg w18_5, if_neg w18_6, if_neg w18_7, if_neg w18_8, if_pos w18_9, db_nIc hj hn0]) (rfl) dX6_task_129
    by_cases w18_10 : w = 10
    · refine lv_tableIn (tgt := 130) (off := 112) hx hb dX6_task_18 (by rw [w18_10]; decide) (by rw [w18_10]; decide) (by rw [w18_10]; decide) (by decide) ?_
      refine lv_aload_n hx hb dX6_task_130 rfl (lv_at hl 0 rfl) ?_
      refine db_getN hx hb hts hown hK hS 1 j (bb_kT hj) rfl db_c5 11 (by decide) wn_93 rfl dX6_task_131 ?_
      exact hret _ _ _ _ _ _ hS (by rw [bb_task, if_neg c5, if_neg w18_0, if_neg w18_1, if_neg w18_2, if_neg w18_3, if_neg w18_4, if_neg w18_5, if_neg w18_6, if_neg w18_7, if_neg w18_8, if_neg w18_9, if_pos w18_10, db_nIc hj hn0]) (rfl) dX6_task_134
    refine lv_tableOut (tgt := 135) hx hb dX6_task_18 (db_out11 w18_0 w18_1 w18_2 w18_3 w18_4 w18_5 w18_6 w18_7 w18_8 w18_9 w18_10) (by decide) ?_
    refine lv_iconst (v := -1) hx hb dX6_task_135 (by decide) ?_
    exact hret _ _ _ _ _ _ hS (by rw [bb_task, if_neg c5, if_neg w18_0, if_neg w18_1, if_neg w18_2, if_neg w18_3, if_neg w18_4, if_neg w18_5, if_neg w18_6, if_neg w18_7, if_neg w18_8, if_neg w18_9, if_neg w18_10]) (rfl) dX6_task_136
  · refine lv_iconst (v := -1) hx hb dX6_task_8 (by decide) ?_
    exact hret _ _ _ _ _ _ hS (by rw [bb_task, if_pos c5]) (rfl) dX6_task_9

set_option maxHeartbeats 4000000 in
set_option maxRecDepth 100000 in
theorem c_X6_count (l : Launch) (Γ : db_G) (N : Nat → Nat) (L : Nat → Nat → Nat) (cnt : Nat) (X : db_X) (hN : bb_N N) (w : Int32) : db_C l Γ yX6_count cX6_count 2 (some .int) (db_rm 1 25) [.ref (L 0 0), .int w] L (bb_ok (N 0) cnt) (bb_cel Γ N L) X (some (.int (bb_count N X w))) X := by
  have hn0 : N 0 < 2 ^ 31 := by have := hN.2.1; omega
  have hn1 : N 1 < 2 ^ 31 := by have := hN.2.2.1; omega
  have hn2 : N 2 < 2 ^ 31 := by have := hN.2.2.2.1; omega
  have hn3 : N 3 < 2 ^ 31 := by have := hN.2.2.2.2; omega
  refine db_introI (by decide +kernel) (Nat.le_of_ble_eq_true rfl) ?_
  intro p e s m args below meth c A Q ls hC hS hl hret
  have hC : db_Cx p s m args meth c Γ RX6 cX6_count 2 (some .int) := hC
  obtain ⟨hx, hb, hml, hr, hlocks, hown, hts, hK⟩ := id hC
  have hl : lv_has ls 2 [(0, .ref (L 0 0)), (1, .int w)] := hl
  refine lv_iload_n hx hb dX6_count_0 rfl (lv_at hl 1 rfl) ?_
  by_cases w1_0 : w = 0
  · refine lv_tableIn (tgt := 44) (off := 43) hx hb dX6_count_1 (by rw [w1_0]; decide) (by rw [w1_0]; decide) (by rw [w1_0]; decide) (by decide) ?_
    refine lv_aload_n hx hb dX6_count_44 rfl (lv_at hl 0 rfl) ?_
    refine db_get hx hb hts hown hK hS 0 0 (bb_k 0 rfl) rfl db_c6 6 (by decide) wd_178 rfl dX6_count_45 ?_
    exact hret _ _ _ _ _ _ hS (by rw [bb_count, if_pos w1_0]) (rfl) dX6_count_48
  by_cases w1_1 : w = 1
  · refine lv_tableIn (tgt := 49) (off := 48) hx hb dX6_count_1 (by rw [w1_1]; decide) (by rw [w1_1]; decide) (by rw [w1_1]; decide) (by decide) ?_
    refine lv_aload_n hx hb dX6_count_49 rfl (lv_at hl 0 rfl) ?_
    refine db_cV (As := []) (rest := []) (st1 := [.int (bb_liveTasks N X)]) hC hS 0 0 (bb_k 0 rfl) rfl db_c6 (c_X6_liveTasks l Γ N L cnt X hN) (cw_X6_liveTasks (Nat.le_of_ble_eq_true rfl) (Nat.le_of_ble_eq_true rfl)) wd_417 wd_419 ws_31 rfl hl.1 rfl (Nat.le_of_ble_eq_true rfl) dX6_count_50 ⟨Nat.le_of_ble_eq_true rfl, Nat.le_of_ble_eq_true rfl⟩ rfl (fun H locs hS => ?_)
    exact hret _ _ _ _ _ _ hS (by rw [bb_count, if_neg w1_0, if_pos w1_1]) (rfl) dX6_count_53
  by_cases w1_2 : w = 2
  · refine lv_tableIn (tgt := 54) (off := 53) hx hb dX6_count_1 (by rw [w1_2]; decide) (by rw [w1_2]; decide) (by rw [w1_2]; decide) (by decide) ?_
    refine lv_aload_n hx hb dX6_count_54 rfl (lv_at hl 0 rfl) ?_
    refine db_cV (As := []) (rest := []) (st1 := [.int (bb_pendingJobs N X)]) hC hS 0 0 (bb_k 0 rfl) rfl db_c6 (c_X6_pendingJobs l Γ N L cnt X hN) (cw_X6_pendingJobs (Nat.le_of_ble_eq_true rfl) (Nat.le_of_ble_eq_true rfl)) wd_421 wd_423 ws_32 rfl hl.1 rfl (Nat.le_of_ble_eq_true rfl) dX6_count_55 ⟨Nat.le_of_ble_eq_true rfl, Nat.le_of_ble_eq_true rfl⟩ rfl (fun H locs hS => ?_)
    exact hret _ _ _ _ _ _ hS (by rw [bb_count, if_neg w1_0, if_neg w1_1, if_pos w1_2]) (rfl) dX6_count_58
  by_cases w1_3 : w = 3
  · refine lv_tableIn (tgt := 59) (off := 58) hx hb dX6_count_1 (by rw [w1_3]; decide) (by rw [w1_3]; decide) (by rw [w1_3]; decide) (by decide) ?_
    refine lv_aload_n hx hb dX6_count_59 rfl (lv_at hl 0 rfl) ?_
    refine db_get hx hb hts hown hK hS 0 0 (bb_k 0 rfl) rfl db_c6 2 (by decide) wd_174 rfl dX6_count_60 ?_
    refine db_getN hx hb hts hown hK hS 4 0 (bb_k 4 rfl) rfl db_c4 1 (by decide) wn_133 rfl dX6_count_63 ?_
    exact hret _ _ _ _ _ _ hS (by rw [bb_count, if_neg w1_0, if_neg w1_1, if_neg w1_2, if_pos w1_3]) (rfl) dX6_count_66
  by_cases w1_4 : w = 4
  · refine lv_tableIn (tgt := 67) (off := 66) hx hb dX6_count_1 (by rw [w1_4]; decide) (by rw [w1_4]; decide) (by rw [w1_4]; decide) (by decide) ?_
    refine lv_aload_n hx hb dX6_count_67 rfl (lv_at hl 0 rfl) ?_
    refine db_cV (As := []) (rest := []) (st1 := [.int (bb_heldLocks N X)]) hC hS 0 0 (bb_k 0 rfl) rfl db_c6 (c_X6_heldLocks l Γ N L cnt X hN) (cw_X6_heldLocks (Nat.le_of_ble_eq_true rfl) (Nat.le_of_ble_eq_true rfl)) wd_425 wd_427 ws_33 rfl hl.1 rfl (Nat.le_of_ble_eq_true rfl) dX6_count_68 ⟨Nat.le_of_ble_eq_true rfl, Nat.le_of_ble_eq_true rfl⟩ rfl (fun H locs hS => ?_)
    exact hret _ _ _ _ _ _ hS (by rw [bb_count, if_neg w1_0, if_neg w1_1, if_neg w1_2, if_neg w1_3, if_pos w1_4]) (rfl) dX6_count_71
  by_cases w1_5 : w = 5
  · refine lv_tableIn (tgt := 72) (off := 71) hx hb dX6_count_1 (by rw [w1_5]; decide) (by rw [w1_5]; decide) (by rw [w1_5]; decide) (by decide) ?_
    refine lv_aload_n hx hb dX6_count_72 rfl (lv_at hl 0 rfl) ?_
    refine db_get hx hb hts hown hK hS 0 0 (bb_k 0 rfl) rfl db_c6 7 (by decide) wd_179 rfl dX6_count_73 ?_
    exact hret _ _ _ _ _ _ hS (by rw [bb_count, if_neg w1_0, if_neg w1_1, if_neg w1_2, if_neg w1_3, if_neg w1_4, if_pos w1_5]) (rfl) dX6_count_76
  by_cases w1_6 : w = 6
  · refine lv_tableIn (tgt := 77) (off := 76) hx hb dX6_count_1 (by rw [w1_6]; decide) (by rw [w1_6]; decide) (by rw [w1_6]; decide) (by decide) ?_
    refine lv_aload_n hx hb dX6_count_77 rfl (lv_at hl 0 rfl) ?_
    refine db_get hx hb hts hown hK hS 0 0 (bb_k 0 rfl) rfl db_c6 5 (by decide) wd_177 rfl dX6_count_78 ?_
    exact hret _ _ _ _ _ _ hS (by rw [bb_count, if_neg w1_0, if_neg w1_1, if_neg w1_2, if_neg w1_3, if_neg w1_4, if_neg w1_5, if_pos w1_6]) (rfl) dX6_count_81
  refine lv_tableOut (tgt := 82) hx hb dX6_count_1 (db_out7 w1_0 w1_1 w1_2 w1_3 w1_4 w1_5 w1_6) (by decide) ?_
  refine lv_iconst (v := -1) hx hb dX6_count_82 (by decide) ?_
  exact hret _ _ _ _ _ _ hS (by rw [bb_count, if_neg w1_0, if_neg w1_1, if_neg w1_2, if_neg w1_3, if_neg w1_4, if_neg w1_5, if_neg w1_6]) (rfl) dX6_count_83

set_option maxHeartbeats 4000000 in
set_option maxRecDepth 100000 in
theorem c_X6_addTask (l : Launch) (Γ : db_G) (N : Nat → Nat) (L : Nat → Nat → Nat) (cnt : Nat) (X : db_X) (hN : bb_N N) (p1 : Int32) (w : Int32) (d : Int32) : db_C l Γ yX6_addTask cX6_addTask 6 (some .int) (db_rm 1 24) [.ref (L 0 0), .int p1, .int w, .int d] L (bb_ok (N 0) cnt) (bb_cel Γ N L) X (some (.int ((bb_addTask N X p1 w d).1))) ((bb_addTask N X p1 w d).2) := by
  have hn0 : N 0 < 2 ^ 31 := by have := hN.2.1; omega
  have hn1 : N 1 < 2 ^ 31 := by have := hN.2.2.1; omega
  have hn2 : N 2 < 2 ^ 31 := by have := hN.2.2.2.1; omega
  have hn3 : N 3 < 2 ^ 31 := by have := hN.2.2.2.2; omega
  refine db_introI (by decide +kernel) (Nat.le_of_ble_eq_true rfl) ?_
  intro p e s m args below meth c A Q ls hC hS hl hret
  have hC : db_Cx p s m args meth c Γ RX6 cX6_addTask 6 (some .int) := hC
  obtain ⟨hx, hb, hml, hr, hlocks, hown, hts, hK⟩ := id hC
  have hl : lv_has ls 6 [(0, .ref (L 0 0)), (1, .int p1), (2, .int w), (3, .int d)] := hl
  have K28 : ∀ (b : Int32) (eb : b = bb_wf X p1 w d) (H : Heap) (locs : List Loc) (hS : db_S Γ A s.heap L (bb_ok (N 0) cnt) (bb_cel Γ N L) X H locs) (ls : Array Slot) (hl : lv_has ls 6 [(0, .ref (L 0 0)), (1, .int p1), (2, .int w), (3, .int d)]), W p l e (db_rm 1 24) s m args below meth c H locs 0 0 Q (F0 m 28 ls [.int b]) := by
    intro b eb H locs hS ls hl
    refine lv_istore (lv' := [(4, .int b), (0, .ref (L 0 0)), (1, .int p1), (2, .int w), (3, .int d)]) hx hb dX6_addTask_28 hl (by decide) rfl (fun ls hl => ?_)
    refine lv_iload hx hb dX6_addTask_30 (lv_at hl 0 rfl) ?_
    refine lv_if_ne (tgt := 38) hx hb dX6_addTask_32 (by decide) (fun c32 => ?_) (fun c32 => ?_)
    · refine lv_iconst (v := 0) hx hb dX6_addTask_38 (by decide) ?_
      refine lv_istore (lv' := [(5, .int 0), (4, .int b), (0, .ref (L 0 0)), (1, .int p1), (2, .int w), (3, .int d)]) hx hb dX6_addTask_39 hl (by decide) rfl (fun ls hl => ?_)
      have K41 : ∀ (q : Nat) (j : Nat) (hq : N 0 + 1 - j ≤ q) (hj0 : j ≤ N 0) (hrem : bb_free N X = db_fst (fun j => decide (X 1 j 1 = 0)) (N 0 - j) j) (H : Heap) (locs : List Loc) (hS : db_S Γ A s.heap L (bb_ok (N 0) cnt) (bb_cel Γ N L) X H locs) (ls : Array Slot) (hl : lv_has ls 6 [(0, .ref (L 0 0)), (1, .int p1), (2, .int w), (3, .int d), (5, .int (nI j))]), W p l e (db_rm 1 24) s m args below meth c H locs 0 0 Q (F0 m 41 ls []) := by
        intro q41
        induction q41 with
        | zero =>
          intro j hq41 hj0 hrem
          exact absurd hq41 (by omega)
        | succ q41 ih41 =>
          intro j hq41 hj0 hrem H locs hS ls hl
          refine lv_iload hx hb dX6_addTask_41 (lv_at hl 4 rfl) ?_
          refine lv_aload_n hx hb dX6_addTask_43 rfl (lv_at hl 0 rfl) ?_
          refine db_get hx hb hts hown hK hS 0 0 (bb_k 0 rfl) rfl db_c6 0 (by decide) wd_172 rfl dX6_addTask_44 ?_
          refine db_alen hx hb hK hS 11 0 (bb_k 11 rfl) 2 rfl rfl dX6_addTask_47 ?_
          refine lv_icmp_ge (tgt := 90) hx hb dX6_addTask_48 (by decide) (fun c48 => ?_) (fun c48 => ?_)
          · have hj : j = N 0 := by
              rcases Nat.lt_or_ge j (N 0) with q9 | q9
              · exact absurd c48 (nI_ge q9 hn0)
              · omega
            refine lv_iconst (v := -1) hx hb dX6_addTask_90 (by decide) ?_
            exact hret _ _ _ _ _ _ hS (by rw [bb_addTask, if_neg (fun q => c32 (eb.trans q)), if_neg (by rw [hrem, hj, Nat.sub_self]; exact Nat.lt_irrefl _)]) (by rw [bb_addTask, if_neg (fun q => c32 (eb.trans q)), if_neg (by rw [hrem, hj, Nat.sub_self]; exact Nat.lt_irrefl _)]) dX6_addTask_91
          · have hj : j < N 0 := by
              rcases Nat.lt_or_ge j (N 0) with q9 | q9
              · exact q9
              · exact absurd (nI_le q9 (by omega)) c48
            refine lv_aload_n hx hb dX6_addTask_51 rfl (lv_at hl 0 rfl) ?_
            refine db_get hx hb hts hown hK hS 0 0 (bb_k 0 rfl) rfl db_c6 0 (by decide) wd_172 rfl dX6_addTask_52 ?_
            refine lv_iload hx hb dX6_addTask_55 (lv_at hl 4 rfl) ?_
            refine db_ald hx hb hK hS 11 0 (bb_k 11 rfl) 2 rfl rfl j rfl hj hn0 rfl dX6_addTask_57 ?_
            refine db_getN hx hb hts hown hK hS 1 j (bb_kT hj) rfl db_c5 1 (by decide) wn_73 rfl dX6_addTask_58 ?_
            refine lv_if_ne (tgt := 84) hx hb dX6_addTask_61 (by decide) (fun c61 => ?_) (fun c61 => ?_)
            · refine lv_iinc (v := (nI (j + 1))) (lv' := [(5, .int (nI (j + 1))), (0, .ref (L 0 0)), (1, .int p1), (2, .int w), (3, .int d)]) hx hb dX6_addTask_84 hl (k := 4) rfl (nI_1 _) (by decide) rfl (fun ls hl => ?_)
              refine lv_goto (tgt := 41) hx hb dX6_addTask_87 (by decide) ?_
              exact ih41 (j + 1) (by omega) hj (by rw [hrem, show N 0 - j = (N 0 - (j + 1)) + 1 by omega, db_fst, if_neg (by simpa using c61)]) _ _ hS _ (lv_sub hl [1, 2, 3, 4, 0] rfl)
            · have hfr : bb_free N X = j := by rw [hrem, show N 0 - j = (N 0 - (j + 1)) + 1 by omega, db_fst, if_pos (by simpa using c61)]
              refine lv_aload_n hx hb dX6_addTask_64 rfl (lv_at hl 0 rfl) ?_
              refine db_get hx hb hts hown hK hS 0 0 (bb_k 0 rfl) rfl db_c6 0 (by decide) wd_172 rfl dX6_addTask_65 ?_
              refine lv_iload hx hb dX6_addTask_68 (lv_at hl 4 rfl) ?_
              refine db_ald hx hb hK hS 11 0 (bb_k 11 rfl) 2 rfl rfl j rfl hj hn0 rfl dX6_addTask_70 ?_
              refine lv_iload_n hx hb dX6_addTask_71 rfl (lv_at hl 1 rfl) ?_
              refine lv_iload_n hx hb dX6_addTask_72 rfl (lv_at hl 2 rfl) ?_
              refine lv_iload_n hx hb dX6_addTask_73 rfl (lv_at hl 3 rfl) ?_
              refine lv_aload_n hx hb dX6_addTask_74 rfl (lv_at hl 0 rfl) ?_
              refine db_get hx hb hts hown hK hS 0 0 (bb_k 0 rfl) rfl db_c6 6 (by decide) wd_178 rfl dX6_addTask_75 ?_
              refine db_cVN (As := [.int p1, .int w, .int d, .int (X 0 0 6)]) (rest := []) (st1 := []) hC hS 1 j (bb_kT hj) rfl db_c5 (c_X5_enter l Γ N L cnt X hN p1 w d (X 0 0 6) j hj) (cw_X5_enter (Nat.le_of_ble_eq_true rfl) (Nat.le_of_ble_eq_true rfl)) wn_201 wd_203 ws_0 rfl hl.1 rfl (Nat.le_of_ble_eq_true rfl) dX6_addTask_78 ⟨Nat.le_of_ble_eq_true rfl, Nat.le_of_ble_eq_true rfl⟩ rfl (fun H locs hS => ?_)
              obtain ⟨X1, eX1⟩ : ∃ z, z = bb_enter X j p1 w d (X 0 0 6) := ⟨_, rfl⟩
              rw [← eX1] at hS
              refine lv_iload hx hb dX6_addTask_81 (lv_at hl 4 rfl) ?_
              exact hret _ _ _ _ _ _ hS (by rw [bb_addTask, if_neg (fun q => c32 (eb.trans q)), if_pos (by rw [hfr]; exact hj), hfr]) (by rw [bb_addTask, if_neg (fun q => c32 (eb.trans q)), if_pos (by rw [hfr]; exact hj), hfr, eX1]) dX6_addTask_83
      exact K41 _ 0 (Nat.le_refl _) (Nat.zero_le _) rfl _ _ hS _ (lv_sub hl [2, 3, 4, 5, 0] rfl)
    · refine lv_bipush (v := -2) hx hb dX6_addTask_35 (by decide) ?_
      exact hret _ _ _ _ _ _ hS (by rw [bb_addTask, if_pos (eb.symm.trans c32)]) (by rw [bb_addTask, if_pos (eb.symm.trans c32)]) dX6_addTask_37
  refine lv_iconst (v := 0) hx hb dX6_addTask_0 (by decide) ?_
  refine lv_iload_n hx hb dX6_addTask_1 rfl (lv_at hl 2 rfl) ?_
  refine lv_icmp_ge (tgt := 27) hx hb dX6_addTask_2 (by decide) (fun c2 => ?_) (fun c2 => ?_)
  · refine lv_iconst (v := 0) hx hb dX6_addTask_27 (by decide) ?_
    exact K28 0 (by simp [bb_wf, c2]) _ _ hS _ (lv_sub hl [0, 1, 2, 3] rfl)
  · refine lv_iload_n hx hb dX6_addTask_5 rfl (lv_at hl 2 rfl) ?_
    refine lv_iload_n hx hb dX6_addTask_6 rfl (lv_at hl 3 rfl) ?_
    refine lv_icmp_gt (tgt := 27) hx hb dX6_addTask_7 (by decide) (fun c7 => ?_) (fun c7 => ?_)
    · refine lv_iconst (v := 0) hx hb dX6_addTask_27 (by decide) ?_
      exact K28 0 (by simp [bb_wf, c2, c7]) _ _ hS _ (lv_sub hl [0, 1, 2, 3] rfl)
    · refine lv_iload_n hx hb dX6_addTask_10 rfl (lv_at hl 3 rfl) ?_
      refine lv_iload_n hx hb dX6_addTask_11 rfl (lv_at hl 1 rfl) ?_
      refine lv_icmp_gt (tgt := 27) hx hb dX6_addTask_12 (by decide) (fun c12 => ?_) (fun c12 => ?_)
      · refine lv_iconst (v := 0) hx hb dX6_addTask_27 (by decide) ?_
        exact K28 0 (by simp [bb_wf, c2, c7, c12]) _ _ hS _ (lv_sub hl [0, 1, 2, 3] rfl)
      · refine lv_iload_n hx hb dX6_addTask_15 rfl (lv_at hl 1 rfl) ?_
        refine lv_aload_n hx hb dX6_addTask_16 rfl (lv_at hl 0 rfl) ?_
        refine db_get hx hb hts hown hK hS 0 0 (bb_k 0 rfl) rfl db_c6 5 (by decide) wd_177 rfl dX6_addTask_17 ?_
        refine lv_icmp_gt (tgt := 27) hx hb dX6_addTask_20 (by decide) (fun c20 => ?_) (fun c20 => ?_)
        · refine lv_iconst (v := 0) hx hb dX6_addTask_27 (by decide) ?_
          exact K28 0 (by simp [bb_wf, c2, c7, c12, c20]) _ _ hS _ (lv_sub hl [0, 1, 2, 3] rfl)
        · refine lv_iconst (v := 1) hx hb dX6_addTask_23 (by decide) ?_
          refine lv_goto (tgt := 28) hx hb dX6_addTask_24 (by decide) ?_
          exact K28 1 (by simp [bb_wf, c2, c7, c12, c20]) _ _ hS _ (lv_sub hl [0, 1, 2, 3] rfl)
