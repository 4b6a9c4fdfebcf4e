set_option maxHeartbeats 4000000 in
set_option maxRecDepth 100000 in
theorem c_X6_admissible (l : Launch) (Γ : db_G) (N : Nat → Nat) (L : Nat → Nat → Nat) (cnt : Nat) (X : db_X) (hN : bb_N N) (la : Nat) (hla : X 0 0 5 = nI la) (hla2 : la ≤ 20000) (hV : bb_V N X) : db_C l Γ yX6_admissible cX6_admissible 4 (some .boolean) (db_rm 1 29) [.ref (L 0 0)] L (bb_ok (N 0) cnt) (bb_cel Γ N L) X (some (.int (bb_adm N X la))) X := by
  have hn0 : N 0 < 2 ^ 31 := by have := hN.2.1; omega
  have hn1 : N 1 < 2 ^ 31 := by have := hN.2.2.1; omega
  have hn2 : N 2 < 2 ^ 31 := by have := hN.2.2.2.1; omega
  have hn3 : N 3 < 2 ^ 31 := by have := hN.2.2.2.2; omega
  refine db_introZ (by decide +kernel) (Nat.le_of_ble_eq_true rfl) (db_01 (Or.inr rfl) (Or.inl rfl)) ?_
  intro p e s m args below meth c A Q ls hC hS hl hret
  have hC : db_Cx p s m args meth c Γ RX6 cX6_admissible 4 (some .boolean) := hC
  obtain ⟨hx, hb, hml, hr, hlocks, hown, hts, hK⟩ := id hC
  have hl : lv_has ls 4 [(0, .ref (L 0 0))] := hl
  refine lv_aload_n hx hb dX6_admissible_0 rfl (lv_at hl 0 rfl) ?_
  refine db_get hx hb hts hown hK hS 0 0 (bb_k 0 rfl) rfl db_c6 5 (by decide) wd_177 rfl dX6_admissible_1 ?_
  refine lv_istore_n (lv' := [(1, .int (X 0 0 5)), (0, .ref (L 0 0))]) hx hb dX6_admissible_4 rfl hl (by decide) rfl (fun ls hl => ?_)
  have K5 : ∀ (q : Nat) (sp : Nat) (hq : sp + 1 ≤ q) (hsp : sp ≤ la) (hg : ∀ t, sp ≤ t → t < la → bb_Dm N X t ≤ t) (H : Heap) (locs : List Loc) (hS : db_S Γ A s.heap L (bb_ok (N 0) cnt) (bb_cel Γ N L) X H locs) (ls : Array Slot) (hl : lv_has ls 4 [(0, .ref (L 0 0)), (1, .int (nI sp))]), W p l e (db_rm 1 29) s m args below meth c H locs 0 0 Q (F0 m 5 ls []) := by
    intro q5
    induction q5 with
    | zero =>
      intro sp hq5 hsp hg
      exact absurd hq5 (by omega)
    | succ q5 ih5 =>
      intro sp hq5 hsp hg H locs hS ls hl
      refine lv_iload_n hx hb dX6_admissible_5 rfl (lv_at hl 1 rfl) ?_
      refine lv_if_le (tgt := 32) hx hb dX6_admissible_6 (by decide) (fun c6 => ?_) (fun c6 => ?_)
      · refine lv_iconst (v := 1) hx hb dX6_admissible_32 (by decide) ?_
        have hs0 : sp = 0 := by
          rcases Nat.eq_zero_or_pos sp with z | z
          · exact z
          · exact absurd c6 (nI_nle z (by omega))
        exact hret _ _ _ _ _ _ hS (by rw [bb_adm, if_pos (fun t h9 => hg t (by omega) h9)]) (rfl) dX6_admissible_33
      · obtain ⟨so, rfl⟩ : ∃ so, sp = so + 1 := by
          cases sp with
          | zero => exact absurd (show nI 0 ≤ 0 by decide) c6
          | succ so => exact ⟨so, rfl⟩
        have hbd : bb_Dm N X so < 2 ^ 62 := bb_Dm_bound hN (by omega) hV
        refine lv_aload_n hx hb dX6_admissible_9 rfl (lv_at hl 0 rfl) ?_
        refine lv_iload_n hx hb dX6_admissible_10 rfl (lv_at hl 1 rfl) ?_
        refine lv_iconst (v := 1) hx hb dX6_admissible_11 (by decide) ?_
        refine lv_isub hx hb dX6_admissible_12 ?_
        rw [nI_pred]
        refine db_cV (As := [.int (nI so)]) (rest := []) (st1 := [.long (bb_dem X (nI so) (N 0))]) hC hS 0 0 (bb_k 0 rfl) rfl db_c6 (c_X6_demandAt l Γ N L cnt X hN (nI so)) (cw_X6_demandAt (Nat.le_of_ble_eq_true rfl) (Nat.le_of_ble_eq_true rfl)) wd_296 wd_298 ws_14 rfl hl.1 rfl (Nat.le_of_ble_eq_true rfl) dX6_admissible_13 ⟨Nat.le_of_ble_eq_true rfl, Nat.le_of_ble_eq_true rfl⟩ rfl (fun H locs hS => ?_)
        rw [show bb_dem X (nI so) (N 0) = lN (bb_Dm N X so) from bb_dem_eq (by omega) hV _ (Nat.le_refl _)]
        refine lv_lstore_n (lv' := [(2, .long (lN (bb_Dm N X so))), (0, .ref (L 0 0)), (1, .int (nI (so + 1)))]) hx hb dX6_admissible_16 rfl hl (by decide) rfl (fun ls hl => ?_)
        refine lv_lload_n hx hb dX6_admissible_17 rfl (lv_at hl 0 rfl) ?_
        refine lv_iload_n hx hb dX6_admissible_18 rfl (lv_at hl 2 rfl) ?_
        refine lv_i2l hx hb dX6_admissible_19 rfl ?_
        rw [nI_l (by omega)]
        refine W.lcmp hx hb dX6_admissible_20 ?_
        refine lv_if_lt (tgt := 26) hx hb dX6_admissible_21 (by decide) (fun c21 => ?_) (fun c21 => ?_)
        · refine lv_lload_n hx hb dX6_admissible_26 rfl (lv_at hl 0 rfl) ?_
          refine lv_l2i hx hb dX6_admissible_27 rfl ?_
          refine lv_istore_n (lv' := [(1, .int ((lN (bb_Dm N X so)).toInt32)), (2, .long (lN (bb_Dm N X so))), (0, .ref (L 0 0))]) hx hb dX6_admissible_28 rfl hl (by decide) rfl (fun ls hl => ?_)
          refine lv_goto (tgt := 5) hx hb dX6_admissible_29 (by decide) ?_
          have hd1 : bb_Dm N X so < so + 1 := (lg_neg hbd (by omega)).mp c21
          have hgood : ∀ t, bb_Dm N X so ≤ t → t < la → bb_Dm N X t ≤ t := by
            intro t h1 h2
            by_cases q9 : so + 1 ≤ t
            · exact hg t q9 h2
            · exact Nat.le_trans (db_D_mono (by omega) _) h1
          rw [show (lN (bb_Dm N X so)).toInt32 = nI (bb_Dm N X so) from lN_i _] at hl
          exact ih5 (bb_Dm N X so) (by omega) (by omega) hgood _ _ hS _ (lv_sub hl [2, 0] rfl)
        · refine lv_iconst (v := 0) hx hb dX6_admissible_24 (by decide) ?_
          exact hret _ _ _ _ _ _ hS (by rw [bb_adm, if_neg (fun w => absurd (w so (by omega)) (fun z => c21 ((lg_neg hbd (by omega)).mpr (by omega))))]) (rfl) dX6_admissible_25
  rw [show X 0 0 5 = nI la from hla] at hl
  exact K5 _ la (Nat.le_refl _) (Nat.le_refl _) (fun t h1 h2 => absurd h2 (by omega)) _ _ hS _ (lv_sub hl [1, 0] rfl)
