set_option maxHeartbeats 4000000 in
set_option maxRecDepth 100000 in
theorem c_X6_dropLateJobs (l : Launch) (Γ : db_G) (N : Nat → Nat) (L : Nat → Nat → Nat) (cnt : Nat) (X : db_X) (hN : bb_N N) (sz tm : Nat) (hI : bb_I N cnt sz X) (htm : X 6 0 2 = nI tm) (htm2 : tm + 40 < 2 ^ 31) : db_C l Γ yX6_dropLateJobs cX6_dropLateJobs 2 (none) (db_rm 4 93) [.ref (L 0 0)] L (bb_ok (N 0) cnt) (bb_cel Γ N L) X none (bb_late N X (N 0)) := by
  have hn0 : N 0 < 2 ^ 31 := by have := hN.2.1; omega
  have hn1 : N 1 < 2 ^ 31 := by have := hN.2.2.1; omega
  have hn2 : N 2 < 2 ^ 31 := by have := hN.2.2.2.1; omega
  have hn3 : N 3 < 2 ^ 31 := by have := hN.2.2.2.2; omega
  refine db_introV (by decide +kernel) (Nat.le_of_ble_eq_true rfl) ?_
  intro p e s m args below meth c A Q ls hC hS hl hret
  have hC : db_Cx p s m args meth c Γ RX6 cX6_dropLateJobs 2 (none) := hC
  obtain ⟨hx, hb, hml, hr, hlocks, hown, hts, hK⟩ := id hC
  have hl : lv_has ls 2 [(0, .ref (L 0 0))] := hl
  have hN40 : N 0 ≤ 40 := hN.2.1
  refine lv_iconst (v := 0) hx hb dX6_dropLateJobs_0 (by decide) ?_
  refine lv_istore_n (lv' := [(1, .int 0), (0, .ref (L 0 0))]) hx hb dX6_dropLateJobs_1 rfl hl (by decide) rfl (fun ls hl => ?_)
  have K2 : ∀ (q : Nat) (i : Nat) (Xa : db_X) (hq : N 0 + 1 - i ≤ q) (hi0 : i ≤ N 0) (eXa : Xa = bb_late N X i) (H : Heap) (locs : List Loc) (hS : db_S Γ A s.heap L (bb_ok (N 0) cnt) (bb_cel Γ N L) Xa H locs) (ls : Array Slot) (hl : lv_has ls 2 [(0, .ref (L 0 0)), (1, .int (nI i))]), W p l e (db_rm 4 93) s m args below meth c H locs 0 0 Q (F0 m 2 ls []) := by
    intro q2
    induction q2 with
    | zero =>
      intro i Xa hq2 hi0 eXa
      exact absurd hq2 (by omega)
    | succ q2 ih2 =>
      intro i Xa hq2 hi0 eXa H locs hS ls hl
      have hIa : bb_I N cnt sz Xa := by rw [eXa]; exact hI.late i
      obtain ⟨ta, hta, eta⟩ := bb_late_tot (N := N) htm i
      have h0a : ¬ Xa 6 0 2 < 0 := by rw [eXa, eta]; exact nI_pos (by omega)
      refine lv_iload_n hx hb dX6_dropLateJobs_2 rfl (lv_at hl 1 rfl) ?_
      refine lv_aload_n hx hb dX6_dropLateJobs_3 rfl (lv_at hl 0 rfl) ?_
      refine db_get hx hb hts hown hK hS 0 0 (bb_k 0 rfl) rfl db_c6 0 (by decide) wd_172 rfl dX6_dropLateJobs_4 ?_
      refine db_alen hx hb hK hS 11 0 (bb_k 11 rfl) 2 rfl rfl dX6_dropLateJobs_7 ?_
      refine lv_icmp_ge (tgt := 83) hx hb dX6_dropLateJobs_8 (by decide) (fun c8 => ?_) (fun c8 => ?_)
      · have hi : i = N 0 := by
          rcases Nat.lt_or_ge i (N 0) with q9 | q9
          · exact absurd c8 (nI_ge q9 hn0)
          · omega
        exact hret _ _ _ _ _ hS (by rw [eXa, hi]) dX6_dropLateJobs_83
      · have hi : i < N 0 := by
          rcases Nat.lt_or_ge i (N 0) with q9 | q9
          · exact q9
          · exact absurd (nI_le q9 (by omega)) c8
        refine lv_aload_n hx hb dX6_dropLateJobs_11 rfl (lv_at hl 0 rfl) ?_
        refine db_get hx hb hts hown hK hS 0 0 (bb_k 0 rfl) rfl db_c6 0 (by decide) wd_172 rfl dX6_dropLateJobs_12 ?_
        refine lv_iload_n hx hb dX6_dropLateJobs_15 rfl (lv_at hl 1 rfl) ?_
        refine db_ald hx hb hK hS 11 0 (bb_k 11 rfl) 2 rfl rfl i rfl hi hn0 rfl dX6_dropLateJobs_16 ?_
        refine db_getN hx hb hts hown hK hS 1 i (bb_kT hi) rfl db_c5 0 (by decide) wn_71 rfl dX6_dropLateJobs_17 ?_
        refine db_getN hx hb hts hown hK hS 2 i (bb_kJ hi) rfl db_c0 0 (by decide) wn_42 rfl dX6_dropLateJobs_20 ?_
        refine lv_if_eq (tgt := 77) hx hb dX6_dropLateJobs_23 (by decide) (fun c23 => ?_) (fun c23 => ?_)
        · refine lv_iinc (v := (nI (i + 1))) (lv' := [(1, .int (nI (i + 1))), (0, .ref (L 0 0))]) hx hb dX6_dropLateJobs_77 hl (k := 1) rfl (nI_1 _) (by decide) rfl (fun ls hl => ?_)
          refine lv_goto (tgt := 2) hx hb dX6_dropLateJobs_80 (by decide) ?_
          exact ih2 (i + 1) Xa (by omega) hi (by rw [bb_late, bb_late1, ← eXa, if_pos c23]) _ _ hS _ (lv_sub hl [1, 0] rfl)
        · refine lv_aload_n hx hb dX6_dropLateJobs_26 rfl (lv_at hl 0 rfl) ?_
          refine db_get hx hb hts hown hK hS 0 0 (bb_k 0 rfl) rfl db_c6 0 (by decide) wd_172 rfl dX6_dropLateJobs_27 ?_
          refine lv_iload_n hx hb dX6_dropLateJobs_30 rfl (lv_at hl 1 rfl) ?_
          refine db_ald hx hb hK hS 11 0 (bb_k 11 rfl) 2 rfl rfl i rfl hi hn0 rfl dX6_dropLateJobs_31 ?_
          refine db_getN hx hb hts hown hK hS 1 i (bb_kT hi) rfl db_c5 0 (by decide) wn_71 rfl dX6_dropLateJobs_32 ?_
          refine db_getN hx hb hts hown hK hS 2 i (bb_kJ hi) rfl db_c0 2 (by decide) wn_47 rfl dX6_dropLateJobs_35 ?_
          refine lv_aload_n hx hb dX6_dropLateJobs_38 rfl (lv_at hl 0 rfl) ?_
          refine db_get hx hb hts hown hK hS 0 0 (bb_k 0 rfl) rfl db_c6 6 (by decide) wd_178 rfl dX6_dropLateJobs_39 ?_
          refine lv_icmp_ne (tgt := 77) hx hb dX6_dropLateJobs_42 (by decide) (fun c42 => ?_) (fun c42 => ?_)
          · refine lv_iinc (v := (nI (i + 1))) (lv' := [(1, .int (nI (i + 1))), (0, .ref (L 0 0))]) hx hb dX6_dropLateJobs_77 hl (k := 1) rfl (nI_1 _) (by decide) rfl (fun ls hl => ?_)
            refine lv_goto (tgt := 2) hx hb dX6_dropLateJobs_80 (by decide) ?_
            exact ih2 (i + 1) Xa (by omega) hi (by rw [bb_late, bb_late1, ← eXa, if_neg c23, if_neg c42]) _ _ hS _ (lv_sub hl [1, 0] rfl)
          · refine lv_aload_n hx hb dX6_dropLateJobs_45 rfl (lv_at hl 0 rfl) ?_
            refine db_get hx hb hts hown hK hS 0 0 (bb_k 0 rfl) rfl db_c6 3 (by decide) wd_175 rfl dX6_dropLateJobs_46 ?_
            refine lv_iload_n hx hb dX6_dropLateJobs_49 rfl (lv_at hl 1 rfl) ?_
            refine lv_aload_n hx hb dX6_dropLateJobs_50 rfl (lv_at hl 0 rfl) ?_
            refine db_get hx hb hts hown hK hS 0 0 (bb_k 0 rfl) rfl db_c6 6 (by decide) wd_178 rfl dX6_dropLateJobs_51 ?_
            refine db_cVN (As := [.int (nI i), .int (Xa 0 0 6)]) (rest := []) (st1 := []) hC hS 6 0 (bb_k 6 rfl) rfl db_c1 (c_X1_note l Γ N L cnt Xa hN (nI i) (Xa 0 0 6) h0a) (cw_X1_note (Nat.le_of_ble_eq_true rfl) (Nat.le_of_ble_eq_true rfl)) wn_312 wd_314 ws_17 rfl hl.1 rfl (Nat.le_of_ble_eq_true rfl) dX6_dropLateJobs_54 ⟨Nat.le_of_ble_eq_true rfl, Nat.le_of_ble_eq_true rfl⟩ rfl (fun H locs hS => ?_)
            obtain ⟨X1, eX1⟩ : ∃ z, z = bb_note N Xa (nI i) (Xa 0 0 6) := ⟨_, rfl⟩
            rw [← eX1] at hS
            refine lv_aload_n hx hb dX6_dropLateJobs_57 rfl (lv_at hl 0 rfl) ?_
            refine db_get hx hb hts hown hK hS 0 0 (bb_k 0 rfl) rfl db_c6 0 (by decide) wd_172 rfl dX6_dropLateJobs_58 ?_
            refine lv_iload_n hx hb dX6_dropLateJobs_61 rfl (lv_at hl 1 rfl) ?_
            refine db_ald hx hb hK hS 11 0 (bb_k 11 rfl) 2 rfl rfl i rfl hi hn0 rfl dX6_dropLateJobs_62 ?_
            refine lv_dup hx hb dX6_dropLateJobs_63 rfl ?_
            refine db_getN hx hb hts hown hK hS 1 i (bb_kT hi) rfl db_c5 8 (by decide) wn_87 rfl dX6_dropLateJobs_64 ?_
            refine lv_iconst (v := 1) hx hb dX6_dropLateJobs_67 (by decide) ?_
            refine lv_iadd hx hb dX6_dropLateJobs_68 ?_
            refine db_putN hx hb hts hown hK hS 1 i (bb_kT hi) rfl db_c5 8 (by decide) wn_87 rfl rfl rfl (Nat.le_of_ble_eq_true rfl) rfl dX6_dropLateJobs_69 (fun H locs hS => ?_)
            obtain ⟨X2, eX2⟩ : ∃ z, z = db_up X1 1 i 8 ((X1 1 i 8) + 1) := ⟨_, rfl⟩
            rw [← eX2] at hS
            have hIb : bb_I N cnt sz X2 := by rw [eX2, eX1]; exact hIa.note.up rfl
            refine lv_aload_n hx hb dX6_dropLateJobs_72 rfl (lv_at hl 0 rfl) ?_
            refine lv_iload_n hx hb dX6_dropLateJobs_73 rfl (lv_at hl 1 rfl) ?_
            refine db_cV (As := [.int (nI i)]) (rest := []) (st1 := []) hC hS 0 0 (bb_k 0 rfl) rfl db_c6 (c_X6_dropJob l Γ N L cnt X2 hN sz i hIb hi) (cw_X6_dropJob (Nat.le_of_ble_eq_true rfl) (Nat.le_of_ble_eq_true rfl)) wd_268 wd_270 ws_8 rfl hl.1 rfl (Nat.le_of_ble_eq_true rfl) dX6_dropLateJobs_74 ⟨Nat.le_of_ble_eq_true rfl, Nat.le_of_ble_eq_true rfl⟩ rfl (fun H locs hS => ?_)
            obtain ⟨X3, eX3⟩ : ∃ z, z = bb_drop N X2 i := ⟨_, rfl⟩
            rw [← eX3] at hS
            refine lv_iinc (v := (nI (i + 1))) (lv' := [(1, .int (nI (i + 1))), (0, .ref (L 0 0))]) hx hb dX6_dropLateJobs_77 hl (k := 1) rfl (nI_1 _) (by decide) rfl (fun ls hl => ?_)
            refine lv_goto (tgt := 2) hx hb dX6_dropLateJobs_80 (by decide) ?_
            exact ih2 (i + 1) X3 (by omega) hi (by rw [bb_late, bb_late1, ← eXa, if_neg c23, if_pos c42, eX3, eX2, eX1]; rfl) _ _ hS _ (lv_sub hl [1, 0] rfl)
  exact K2 _ 0 X (Nat.le_refl _) (Nat.zero_le _) rfl _ _ hS _ (lv_sub hl [1, 0] rfl)

set_option maxHeartbeats 4000000 in
set_option maxRecDepth 100000 in
theorem c_X6_releaseJobs (l : Launch) (Γ : db_G) (N : Nat → Nat) (L : Nat → Nat → Nat) (cnt : Nat) (X : db_X) (hN : bb_N N) : db_C l Γ yX6_releaseJobs cX6_releaseJobs 5 (none) (db_rm 2 42) [.ref (L 0 0)] L (bb_ok (N 0) cnt) (bb_cel Γ N L) X none (bb_rels X (N 0)) := by
  have hn0 : N 0 < 2 ^ 31 := by have := hN.2.1; omega
  have hn1 : N 1 < 2 ^ 31 := by have := hN.2.2.1; omega
  have hn2 : N 2 < 2 ^ 31 := by have := hN.2.2.2.1; omega
  have hn3 : N 3 < 2 ^ 31 := by have := hN.2.2.2.2; omega
  refine db_introV (by decide +kernel) (Nat.le_of_ble_eq_true rfl) ?_
  intro p e s m args below meth c A Q ls hC hS hl hret
  have hC : db_Cx p s m args meth c Γ RX6 cX6_releaseJobs 5 (none) := hC
  obtain ⟨hx, hb, hml, hr, hlocks, hown, hts, hK⟩ := id hC
  have hl : lv_has ls 5 [(0, .ref (L 0 0))] := hl
  refine lv_aload_n hx hb dX6_releaseJobs_0 rfl (lv_at hl 0 rfl) ?_
  refine db_get hx hb hts hown hK hS 0 0 (bb_k 0 rfl) rfl db_c6 0 (by decide) wd_172 rfl dX6_releaseJobs_1 ?_
  refine lv_astore_n (lv' := [(1, .ref (L 11 0)), (0, .ref (L 0 0))]) hx hb dX6_releaseJobs_4 rfl hl (by decide) rfl (fun ls hl => ?_)
  refine lv_aload_n hx hb dX6_releaseJobs_5 rfl (lv_at hl 0 rfl) ?_
  refine db_alen hx hb hK hS 11 0 (bb_k 11 rfl) 2 rfl rfl dX6_releaseJobs_6 ?_
  refine lv_istore_n (lv' := [(2, .int (nI (N 0))), (1, .ref (L 11 0)), (0, .ref (L 0 0))]) hx hb dX6_releaseJobs_7 rfl hl (by decide) rfl (fun ls hl => ?_)
  refine lv_iconst (v := 0) hx hb dX6_releaseJobs_8 (by decide) ?_
  refine lv_istore_n (lv' := [(3, .int 0), (2, .int (nI (N 0))), (1, .ref (L 11 0)), (0, .ref (L 0 0))]) hx hb dX6_releaseJobs_9 rfl hl (by decide) rfl (fun ls hl => ?_)
  have K10 : ∀ (q : Nat) (i : Nat) (Xa : db_X) (hq : N 0 + 1 - i ≤ q) (hi0 : i ≤ N 0) (eXa : Xa = bb_rels X i) (H : Heap) (locs : List Loc) (hS : db_S Γ A s.heap L (bb_ok (N 0) cnt) (bb_cel Γ N L) Xa H locs) (ls : Array Slot) (hl : lv_has ls 5 [(0, .ref (L 0 0)), (1, .ref (L 11 0)), (2, .int (nI (N 0))), (3, .int (nI i))]), W p l e (db_rm 2 42) s m args below meth c H locs 0 0 Q (F0 m 10 ls []) := by
    intro q10
    induction q10 with
    | zero =>
      intro i Xa hq10 hi0 eXa
      exact absurd hq10 (by omega)
    | succ q10 ih10 =>
      intro i Xa hq10 hi0 eXa H locs hS ls hl
      refine lv_iload_n hx hb dX6_releaseJobs_10 rfl (lv_at hl 3 rfl) ?_
      refine lv_iload_n hx hb dX6_releaseJobs_11 rfl (lv_at hl 2 rfl) ?_
      refine lv_icmp_ge (tgt := 51) hx hb dX6_releaseJobs_12 (by decide) (fun c12 => ?_) (fun c12 => ?_)
      · have hi : i = N 0 := by
          rcases Nat.lt_or_ge i (N 0) with q9 | q9
          · exact absurd c12 (nI_ge q9 hn0)
          · omega
        exact hret _ _ _ _ _ hS (by rw [eXa, hi]) dX6_releaseJobs_51
      · have hi : i < N 0 := by
          rcases Nat.lt_or_ge i (N 0) with q9 | q9
          · exact q9
          · exact absurd (nI_le q9 (by omega)) c12
        refine lv_aload_n hx hb dX6_releaseJobs_15 rfl (lv_at hl 1 rfl) ?_
        refine lv_iload_n hx hb dX6_releaseJobs_16 rfl (lv_at hl 3 rfl) ?_
        refine db_ald hx hb hK hS 11 0 (bb_k 11 rfl) 2 rfl rfl i rfl hi hn0 rfl dX6_releaseJobs_17 ?_
        refine lv_astore (lv' := [(4, .ref (L 1 i)), (0, .ref (L 0 0)), (1, .ref (L 11 0)), (2, .int (nI (N 0))), (3, .int (nI i))]) hx hb dX6_releaseJobs_18 hl (by decide) rfl (fun ls hl => ?_)
        refine lv_aload hx hb dX6_releaseJobs_20 (lv_at hl 0 rfl) ?_
        refine db_getN hx hb hts hown hK hS 1 i (bb_kT hi) rfl db_c5 1 (by decide) wn_73 rfl dX6_releaseJobs_22 ?_
        refine lv_if_eq (tgt := 45) hx hb dX6_releaseJobs_25 (by decide) (fun c25 => ?_) (fun c25 => ?_)
        · refine lv_iinc (v := (nI (i + 1))) (lv' := [(3, .int (nI (i + 1))), (4, .ref (L 1 i)), (0, .ref (L 0 0)), (1, .ref (L 11 0)), (2, .int (nI (N 0)))]) hx hb dX6_releaseJobs_45 hl (k := 4) rfl (nI_1 _) (by decide) rfl (fun ls hl => ?_)
          refine lv_goto (tgt := 10) hx hb dX6_releaseJobs_48 (by decide) ?_
          exact ih10 (i + 1) Xa (by omega) hi (by rw [bb_rels, bb_rels1, ← eXa, if_pos c25]) _ _ hS _ (lv_sub hl [2, 3, 4, 0] rfl)
        · refine lv_aload hx hb dX6_releaseJobs_28 (lv_at hl 0 rfl) ?_
          refine db_getN hx hb hts hown hK hS 1 i (bb_kT hi) rfl db_c5 5 (by decide) wn_81 rfl dX6_releaseJobs_30 ?_
          refine lv_aload_n hx hb dX6_releaseJobs_33 rfl (lv_at hl 1 rfl) ?_
          refine db_get hx hb hts hown hK hS 0 0 (bb_k 0 rfl) rfl db_c6 6 (by decide) wd_178 rfl dX6_releaseJobs_34 ?_
          refine lv_icmp_ne (tgt := 45) hx hb dX6_releaseJobs_37 (by decide) (fun c37 => ?_) (fun c37 => ?_)
          · refine lv_iinc (v := (nI (i + 1))) (lv' := [(3, .int (nI (i + 1))), (4, .ref (L 1 i)), (0, .ref (L 0 0)), (1, .ref (L 11 0)), (2, .int (nI (N 0)))]) hx hb dX6_releaseJobs_45 hl (k := 4) rfl (nI_1 _) (by decide) rfl (fun ls hl => ?_)
            refine lv_goto (tgt := 10) hx hb dX6_releaseJobs_48 (by decide) ?_
            exact ih10 (i + 1) Xa (by omega) hi (by rw [bb_rels, bb_rels1, ← eXa, if_neg c25, if_neg c37]) _ _ hS _ (lv_sub hl [2, 3, 4, 0] rfl)
          · refine lv_aload hx hb dX6_releaseJobs_40 (lv_at hl 0 rfl) ?_
            refine db_cVN (As := []) (rest := []) (st1 := []) hC hS 1 i (bb_kT hi) rfl db_c5 (c_X5_releaseJob l Γ N L cnt Xa hN i hi) (cw_X5_releaseJob (Nat.le_of_ble_eq_true rfl) (Nat.le_of_ble_eq_true rfl)) wn_320 wd_322 ws_19 rfl hl.1 rfl (Nat.le_of_ble_eq_true rfl) dX6_releaseJobs_42 ⟨Nat.le_of_ble_eq_true rfl, Nat.le_of_ble_eq_true rfl⟩ rfl (fun H locs hS => ?_)
            obtain ⟨X1, eX1⟩ : ∃ z, z = bb_rel Xa i := ⟨_, rfl⟩
            rw [← eX1] at hS
            refine lv_iinc (v := (nI (i + 1))) (lv' := [(3, .int (nI (i + 1))), (4, .ref (L 1 i)), (0, .ref (L 0 0)), (1, .ref (L 11 0)), (2, .int (nI (N 0)))]) hx hb dX6_releaseJobs_45 hl (k := 4) rfl (nI_1 _) (by decide) rfl (fun ls hl => ?_)
            refine lv_goto (tgt := 10) hx hb dX6_releaseJobs_48 (by decide) ?_
            exact ih10 (i + 1) X1 (by omega) hi (by rw [bb_rels, bb_rels1, ← eXa, if_neg c25, if_pos c37, eX1]) _ _ hS _ (lv_sub hl [2, 3, 4, 0] rfl)
  exact K10 _ 0 X (Nat.le_refl _) (Nat.zero_le _) rfl _ _ hS _ (lv_sub hl [3, 2, 1, 0] rfl)

theorem bb_take01 {i : Nat} : ∀ (q p : Nat) (X : db_X), (bb_takeF i q p X).1 = 0 ∨ (bb_takeF i q p X).1 = 1
  | 0, _, _ => Or.inr rfl
  | q + 1, p, X => by
    unfold bb_takeF
    split
    · exact bb_take01 q (p + 1) X
    · split
      · exact bb_take01 q (p + 1) X
      · split
        · exact bb_take01 q (p + 1) _
        · split
          · exact bb_take01 q (p + 1) X
          · exact Or.inl rfl

set_option maxHeartbeats 4000000 in
set_option maxRecDepth 100000 in
theorem c_X6_takeLocks (l : Launch) (Γ : db_G) (N : Nat → Nat) (L : Nat → Nat → Nat) (cnt : Nat) (X : db_X) (hN : bb_N N) (sz i : Nat) (hI : bb_I N cnt sz X) (hcn : cnt < 2 ^ 31) (hi : i < N 0) : db_C l Γ yX6_takeLocks cX6_takeLocks 5 (some .boolean) (db_rm 0 0) [.ref (L 0 0), .int (nI i)] L (bb_ok (N 0) cnt) (bb_cel Γ N L) X (some (.int ((bb_take X sz i).1))) ((bb_take X sz i).2) := by
  have hn0 : N 0 < 2 ^ 31 := by have := hN.2.1; omega
  have hn1 : N 1 < 2 ^ 31 := by have := hN.2.2.1; omega
  have hn2 : N 2 < 2 ^ 31 := by have := hN.2.2.2.1; omega
  have hn3 : N 3 < 2 ^ 31 := by have := hN.2.2.2.2; omega
  refine db_introZ (by decide +kernel) (Nat.le_of_ble_eq_true rfl) (bb_take01 _ _ _) ?_
  intro p e s m args below meth c A Q ls hC hS hl hret
  have hC : db_Cx p s m args meth c Γ RX6 cX6_takeLocks 5 (some .boolean) := hC
  obtain ⟨hx, hb, hml, hr, hlocks, hown, hts, hK⟩ := id hC
  have hl : lv_has ls 5 [(0, .ref (L 0 0)), (1, .int (nI i))] := hl
  refine lv_aload_n hx hb dX6_takeLocks_0 rfl (lv_at hl 0 rfl) ?_
  refine db_get hx hb hts hown hK hS 0 0 (bb_k 0 rfl) rfl db_c6 0 (by decide) wd_172 rfl dX6_takeLocks_1 ?_
  refine lv_iload_n hx hb dX6_takeLocks_4 rfl (lv_at hl 1 rfl) ?_
  refine db_ald hx hb hK hS 11 0 (bb_k 11 rfl) 2 rfl rfl i rfl hi hn0 rfl dX6_takeLocks_5 ?_
  refine db_getN hx hb hts hown hK hS 1 i (bb_kT hi) rfl db_c5 0 (by decide) wn_71 rfl dX6_takeLocks_6 ?_
  refine lv_astore_n (lv' := [(2, .ref (L 2 i)), (0, .ref (L 0 0)), (1, .int (nI i))]) hx hb dX6_takeLocks_9 rfl hl (by decide) rfl (fun ls hl => ?_)
  refine lv_iconst (v := 0) hx hb dX6_takeLocks_10 (by decide) ?_
  refine lv_istore_n (lv' := [(3, .int 0), (2, .ref (L 2 i)), (0, .ref (L 0 0)), (1, .int (nI i))]) hx hb dX6_takeLocks_11 rfl hl (by decide) rfl (fun ls hl => ?_)
  have K12 : ∀ (q : Nat) (u : Nat) (Xa : db_X) (hq : sz + 1 - u ≤ q) (hu0 : u ≤ sz) (hIa : bb_I N cnt sz Xa) (hrem : bb_take X sz i = bb_takeF i (sz - u) u Xa) (H : Heap) (locs : List Loc) (hS : db_S Γ A s.heap L (bb_ok (N 0) cnt) (bb_cel Γ N L) Xa H locs) (ls : Array Slot) (hl : lv_has ls 5 [(0, .ref (L 0 0)), (1, .int (nI i)), (2, .ref (L 2 i)), (3, .int (nI u))]), W p l e (db_rm 0 0) s m args below meth c H locs 0 0 Q (F0 m 12 ls []) := by
    intro q12
    induction q12 with
    | zero =>
      intro u Xa hq12 hu0 hIa hrem
      exact absurd hq12 (by omega)
    | succ q12 ih12 =>
      intro u Xa hq12 hu0 hIa hrem H locs hS ls hl
      have hsz : sz < 2 ^ 31 := by have := hIa.2.2.2.1; omega
      refine lv_iload_n hx hb dX6_takeLocks_12 rfl (lv_at hl 3 rfl) ?_
      refine lv_aload_n hx hb dX6_takeLocks_13 rfl (lv_at hl 0 rfl) ?_
      refine db_get hx hb hts hown hK hS 0 0 (bb_k 0 rfl) rfl db_c6 2 (by decide) wd_174 rfl dX6_takeLocks_14 ?_
      refine db_getN hx hb hts hown hK hS 4 0 (bb_k 4 rfl) rfl db_c4 1 (by decide) wn_133 rfl dX6_takeLocks_17 ?_
      rw [show Xa 4 0 1 = nI sz from hIa.2.2.1]
      refine lv_icmp_ge (tgt := 117) hx hb dX6_takeLocks_20 (by decide) (fun c20 => ?_) (fun c20 => ?_)
      · have hu : u = sz := by
          rcases Nat.lt_or_ge u (sz) with q9 | q9
          · exact absurd c20 (nI_ge q9 hsz)
          · omega
        refine lv_iconst (v := 1) hx hb dX6_takeLocks_117 (by decide) ?_
        exact hret _ _ _ _ _ _ hS (by rw [hrem, hu, Nat.sub_self]; rfl) (by rw [hrem, hu, Nat.sub_self]; rfl) dX6_takeLocks_118
      · have hu : u < sz := by
          rcases Nat.lt_or_ge u (sz) with q9 | q9
          · exact q9
          · exact absurd (nI_le q9 (by omega)) c20
        have hlk : db_in (bb_sec Xa u 2) (N 1) := (hIa.2.2.2.2 u hu).2
        refine lv_aload_n hx hb dX6_takeLocks_23 rfl (lv_at hl 0 rfl) ?_
        refine db_get hx hb hts hown hK hS 0 0 (bb_k 0 rfl) rfl db_c6 2 (by decide) wd_174 rfl dX6_takeLocks_24 ?_
        refine db_getN hx hb hts hown hK hS 4 0 (bb_k 4 rfl) rfl db_c4 0 (by decide) wn_131 rfl dX6_takeLocks_27 ?_
        refine lv_iload_n hx hb dX6_takeLocks_30 rfl (lv_at hl 3 rfl) ?_
        refine db_ald hx hb hK hS 5 0 (bb_k 5 rfl) 3 rfl rfl u rfl (Nat.lt_of_lt_of_le hu hIa.2.2.2.1) hn2 (bb_rowf (hIa.2.2.2.2 u hu).1 hcn) dX6_takeLocks_31 ?_
        refine lv_astore (lv' := [(4, .ref (L 12 ((Xa 5 0 u).toNatClampNeg))), (0, .ref (L 0 0)), (1, .int (nI i)), (2, .ref (L 2 i)), (3, .int (nI u))]) hx hb dX6_takeLocks_32 hl (by decide) rfl (fun ls hl => ?_)
        refine lv_aload hx hb dX6_takeLocks_34 (lv_at hl 0 rfl) ?_
        refine db_getN hx hb hts hown hK hS 12 ((Xa 5 0 u).toNatClampNeg) (bb_kS ((hIa.2.2.2.2 u hu).1.lt hcn)) rfl db_c3 0 (by decide) wn_225 rfl dX6_takeLocks_36 ?_
        refine lv_iload_n hx hb dX6_takeLocks_39 rfl (lv_at hl 2 rfl) ?_
        refine lv_icmp_ne (tgt := 111) hx hb dX6_takeLocks_40 (by decide) (fun c40 => ?_) (fun c40 => ?_)
        · have c40 : ¬ bb_sec Xa u 0 = nI i := c40
          refine lv_iinc (v := (nI (u + 1))) (lv' := [(3, .int (nI (u + 1))), (4, .ref (L 12 ((Xa 5 0 u).toNatClampNeg))), (0, .ref (L 0 0)), (1, .int (nI i)), (2, .ref (L 2 i))]) hx hb dX6_takeLocks_111 hl (k := 4) rfl (nI_1 _) (by decide) rfl (fun ls hl => ?_)
          refine lv_goto (tgt := 12) hx hb dX6_takeLocks_114 (by decide) ?_
          exact ih12 (u + 1) Xa (by omega) hu hIa (by rw [hrem, show sz - u = (sz - (u + 1)) + 1 by omega, bb_takeF, if_pos c40]) _ _ hS _ (lv_sub hl [2, 3, 4, 0] rfl)
        · have c40 : bb_sec Xa u 0 = nI i := c40
          refine lv_aload hx hb dX6_takeLocks_43 (lv_at hl 0 rfl) ?_
          refine db_getN hx hb hts hown hK hS 12 ((Xa 5 0 u).toNatClampNeg) (bb_kS ((hIa.2.2.2.2 u hu).1.lt hcn)) rfl db_c3 1 (by decide) wn_227 rfl dX6_takeLocks_45 ?_
          refine lv_aload_n hx hb dX6_takeLocks_48 rfl (lv_at hl 3 rfl) ?_
          refine db_getN hx hb hts hown hK hS 2 i (bb_kJ hi) rfl db_c0 3 (by decide) wn_49 rfl dX6_takeLocks_49 ?_
          refine lv_icmp_eq (tgt := 58) hx hb dX6_takeLocks_52 (by decide) (fun c52 => ?_) (fun c52 => ?_)
          · have c52 : bb_sec Xa u 1 = Xa 2 i 3 := c52
            refine lv_aload_n hx hb dX6_takeLocks_58 rfl (lv_at hl 1 rfl) ?_
            refine db_get hx hb hts hown hK hS 0 0 (bb_k 0 rfl) rfl db_c6 1 (by decide) wd_173 rfl dX6_takeLocks_59 ?_
            refine lv_aload hx hb dX6_takeLocks_62 (lv_at hl 0 rfl) ?_
            refine db_getN hx hb hts hown hK hS 12 ((Xa 5 0 u).toNatClampNeg) (bb_kS ((hIa.2.2.2.2 u hu).1.lt hcn)) rfl db_c3 2 (by decide) wn_229 rfl dX6_takeLocks_64 ?_
            refine db_ild hx hb hK hS 3 0 (bb_k 3 rfl) rfl ((Xa 12 ((Xa 5 0 u).toNatClampNeg) 2).toNatClampNeg) (hlk.eq hn1) (hlk.lt hn1) hn1 dX6_takeLocks_67 ?_
            refine lv_iconst (v := -1) hx hb dX6_takeLocks_68 (by decide) ?_
            refine lv_icmp_ne (tgt := 86) hx hb dX6_takeLocks_69 (by decide) (fun c69 => ?_) (fun c69 => ?_)
            · have c69 : ¬ Xa 3 0 (bb_sec Xa u 2).toNatClampNeg = -1 := c69
              refine lv_aload_n hx hb dX6_takeLocks_86 rfl (lv_at hl 1 rfl) ?_
              refine db_get hx hb hts hown hK hS 0 0 (bb_k 0 rfl) rfl db_c6 1 (by decide) wd_173 rfl dX6_takeLocks_87 ?_
              refine lv_aload hx hb dX6_takeLocks_90 (lv_at hl 0 rfl) ?_
              refine db_getN hx hb hts hown hK hS 12 ((Xa 5 0 u).toNatClampNeg) (bb_kS ((hIa.2.2.2.2 u hu).1.lt hcn)) rfl db_c3 2 (by decide) wn_229 rfl dX6_takeLocks_92 ?_
              refine db_ild hx hb hK hS 3 0 (bb_k 3 rfl) rfl ((Xa 12 ((Xa 5 0 u).toNatClampNeg) 2).toNatClampNeg) (hlk.eq hn1) (hlk.lt hn1) hn1 dX6_takeLocks_95 ?_
              refine lv_iload_n hx hb dX6_takeLocks_96 rfl (lv_at hl 2 rfl) ?_
              refine lv_icmp_eq (tgt := 111) hx hb dX6_takeLocks_97 (by decide) (fun c97 => ?_) (fun c97 => ?_)
              · have c97 : Xa 3 0 (bb_sec Xa u 2).toNatClampNeg = nI i := c97
                refine lv_iinc (v := (nI (u + 1))) (lv' := [(3, .int (nI (u + 1))), (4, .ref (L 12 ((Xa 5 0 u).toNatClampNeg))), (0, .ref (L 0 0)), (1, .int (nI i)), (2, .ref (L 2 i))]) hx hb dX6_takeLocks_111 hl (k := 4) rfl (nI_1 _) (by decide) rfl (fun ls hl => ?_)
                refine lv_goto (tgt := 12) hx hb dX6_takeLocks_114 (by decide) ?_
                exact ih12 (u + 1) Xa (by omega) hu hIa (by rw [hrem, show sz - u = (sz - (u + 1)) + 1 by omega, bb_takeF, if_neg (fun q => q c40), if_neg (fun q => q c52), if_neg c69, if_pos c97]) _ _ hS _ (lv_sub hl [2, 3, 4, 0] rfl)
              · have c97 : ¬ Xa 3 0 (bb_sec Xa u 2).toNatClampNeg = nI i := c97
                refine lv_aload_n hx hb dX6_takeLocks_100 rfl (lv_at hl 3 rfl) ?_
                refine lv_aload hx hb dX6_takeLocks_101 (lv_at hl 0 rfl) ?_
                refine db_getN hx hb hts hown hK hS 12 ((Xa 5 0 u).toNatClampNeg) (bb_kS ((hIa.2.2.2.2 u hu).1.lt hcn)) rfl db_c3 2 (by decide) wn_229 rfl dX6_takeLocks_103 ?_
                refine db_putN hx hb hts hown hK hS 2 i (bb_kJ hi) rfl db_c0 4 (by decide) wn_51 rfl rfl rfl (Nat.le_of_ble_eq_true rfl) rfl dX6_takeLocks_106 (fun H locs hS => ?_)
                obtain ⟨X1, eX1⟩ : ∃ z, z = db_up Xa 2 i 4 (Xa 12 ((Xa 5 0 u).toNatClampNeg) 2) := ⟨_, rfl⟩
                rw [← eX1] at hS
                refine lv_iconst (v := 0) hx hb dX6_takeLocks_109 (by decide) ?_
                exact hret _ _ _ _ _ _ hS (by rw [hrem, show sz - u = (sz - (u + 1)) + 1 by omega, bb_takeF, if_neg (fun q => q c40), if_neg (fun q => q c52), if_neg c69, if_neg c97]) (by rw [hrem, show sz - u = (sz - (u + 1)) + 1 by omega, bb_takeF, if_neg (fun q => q c40), if_neg (fun q => q c52), if_neg c69, if_neg c97, eX1]; rfl) dX6_takeLocks_110
            · have c69 : Xa 3 0 (bb_sec Xa u 2).toNatClampNeg = -1 := c69
              refine lv_aload_n hx hb dX6_takeLocks_72 rfl (lv_at hl 1 rfl) ?_
              refine db_get hx hb hts hown hK hS 0 0 (bb_k 0 rfl) rfl db_c6 1 (by decide) wd_173 rfl dX6_takeLocks_73 ?_
              refine lv_aload hx hb dX6_takeLocks_76 (lv_at hl 0 rfl) ?_
              refine db_getN hx hb hts hown hK hS 12 ((Xa 5 0 u).toNatClampNeg) (bb_kS ((hIa.2.2.2.2 u hu).1.lt hcn)) rfl db_c3 2 (by decide) wn_229 rfl dX6_takeLocks_78 ?_
              refine lv_iload_n hx hb dX6_takeLocks_81 rfl (lv_at hl 2 rfl) ?_
              refine db_ist hx hb hK hS 3 0 (bb_k 3 rfl) (fun _ => rfl) ((Xa 12 ((Xa 5 0 u).toNatClampNeg) 2).toNatClampNeg) (hlk.eq hn1) (hlk.lt hn1) hn1 dX6_takeLocks_82 (fun H locs hS => ?_)
              obtain ⟨X2, eX2⟩ : ∃ z, z = db_up Xa 3 0 ((Xa 12 ((Xa 5 0 u).toNatClampNeg) 2).toNatClampNeg) (nI i) := ⟨_, rfl⟩
              rw [← eX2] at hS
              refine lv_goto (tgt := 111) hx hb dX6_takeLocks_83 (by decide) ?_
              refine lv_iinc (v := (nI (u + 1))) (lv' := [(3, .int (nI (u + 1))), (4, .ref (L 12 ((Xa 5 0 u).toNatClampNeg))), (0, .ref (L 0 0)), (1, .int (nI i)), (2, .ref (L 2 i))]) hx hb dX6_takeLocks_111 hl (k := 4) rfl (nI_1 _) (by decide) rfl (fun ls hl => ?_)
              refine lv_goto (tgt := 12) hx hb dX6_takeLocks_114 (by decide) ?_
              exact ih12 (u + 1) X2 (by omega) hu (by rw [eX2]; exact hIa.up3 (Or.inr ⟨i, hi, rfl⟩)) (by rw [hrem, show sz - u = (sz - (u + 1)) + 1 by omega, bb_takeF, if_neg (fun q => q c40), if_neg (fun q => q c52), if_pos c69, eX2]; rfl) _ _ hS _ (lv_sub hl [2, 3, 4, 0] rfl)
          · have c52 : ¬ bb_sec Xa u 1 = Xa 2 i 3 := c52
            refine lv_goto (tgt := 111) hx hb dX6_takeLocks_55 (by decide) ?_
            refine lv_iinc (v := (nI (u + 1))) (lv' := [(3, .int (nI (u + 1))), (4, .ref (L 12 ((Xa 5 0 u).toNatClampNeg))), (0, .ref (L 0 0)), (1, .int (nI i)), (2, .ref (L 2 i))]) hx hb dX6_takeLocks_111 hl (k := 4) rfl (nI_1 _) (by decide) rfl (fun ls hl => ?_)
            refine lv_goto (tgt := 12) hx hb dX6_takeLocks_114 (by decide) ?_
            exact ih12 (u + 1) Xa (by omega) hu hIa (by rw [hrem, show sz - u = (sz - (u + 1)) + 1 by omega, bb_takeF, if_neg (fun q => q c40), if_pos c52]) _ _ hS _ (lv_sub hl [2, 3, 4, 0] rfl)
  exact K12 _ 0 X (Nat.le_refl _) (Nat.zero_le _) hI rfl _ _ hS _ (lv_sub hl [2, 3, 1, 0] rfl)

theorem c_X6_takeLocks' (l : Launch) (Γ : db_G) (N : Nat → Nat) (L : Nat → Nat → Nat) (cnt : Nat) (X : db_X) (hN : bb_N N) (t : Int32) (sz : Nat) (hI : bb_I N cnt sz X) (hcn : cnt < 2 ^ 31) (ht : db_in t (N 0)) : db_C l Γ yX6_takeLocks cX6_takeLocks 5 (some .boolean) (db_rm 0 0) [.ref (L 0 0), .int t] L (bb_ok (N 0) cnt) (bb_cel Γ N L) X (some (.int (bb_take X sz t.toNatClampNeg).1)) (bb_take X sz t.toNatClampNeg).2 := by
  have hn0 : N 0 < 2 ^ 31 := by have := hN.2.1; omega
  have h := c_X6_takeLocks l Γ N L cnt X hN sz t.toNatClampNeg hI hcn (ht.lt hn0)
  rw [← ht.eq hn0] at h
  exact h

set_option maxHeartbeats 4000000 in
set_option maxRecDepth 100000 in
theorem c_X6_workOneUnit (l : Launch) (Γ : db_G) (N : Nat → Nat) (L : Nat → Nat → Nat) (cnt : Nat) (X : db_X) (hN : bb_N N) (sz i : Nat) (hI : bb_I N cnt sz X) (hcn : cnt < 2 ^ 31) (hi : i < N 0) : db_C l Γ yX6_workOneUnit cX6_workOneUnit 5 (none) (db_rm 3 71) [.ref (L 0 0), .int (nI i)] L (bb_ok (N 0) cnt) (bb_cel Γ N L) X none (bb_work N X sz i) := by
  have hn0 : N 0 < 2 ^ 31 := by have := hN.2.1; omega
  have hn1 : N 1 < 2 ^ 31 := by have := hN.2.2.1; omega
  have hn2 : N 2 < 2 ^ 31 := by have := hN.2.2.2.1; omega
  have hn3 : N 3 < 2 ^ 31 := by have := hN.2.2.2.2; omega
  refine db_introV (by decide +kernel) (Nat.le_of_ble_eq_true rfl) ?_
  intro p e s m args below meth c A Q ls hC hS hl hret
  have hC : db_Cx p s m args meth c Γ RX6 cX6_workOneUnit 5 (none) := hC
  obtain ⟨hx, hb, hml, hr, hlocks, hown, hts, hK⟩ := id hC
  have hl : lv_has ls 5 [(0, .ref (L 0 0)), (1, .int (nI i))] := hl
  refine lv_aload_n hx hb dX6_workOneUnit_0 rfl (lv_at hl 0 rfl) ?_
  refine db_get hx hb hts hown hK hS 0 0 (bb_k 0 rfl) rfl db_c6 0 (by decide) wd_172 rfl dX6_workOneUnit_1 ?_
  refine lv_iload_n hx hb dX6_workOneUnit_4 rfl (lv_at hl 1 rfl) ?_
  refine db_ald hx hb hK hS 11 0 (bb_k 11 rfl) 2 rfl rfl i rfl hi hn0 rfl dX6_workOneUnit_5 ?_
  refine db_getN hx hb hts hown hK hS 1 i (bb_kT hi) rfl db_c5 0 (by decide) wn_71 rfl dX6_workOneUnit_6 ?_
  refine lv_astore_n (lv' := [(2, .ref (L 2 i)), (0, .ref (L 0 0)), (1, .int (nI i))]) hx hb dX6_workOneUnit_9 rfl hl (by decide) rfl (fun ls hl => ?_)
  refine lv_aload_n hx hb dX6_workOneUnit_10 rfl (lv_at hl 0 rfl) ?_
  refine lv_dup hx hb dX6_workOneUnit_11 rfl ?_
  refine db_getN hx hb hts hown hK hS 2 i (bb_kJ hi) rfl db_c0 3 (by decide) wn_49 rfl dX6_workOneUnit_12 ?_
  refine lv_iconst (v := 1) hx hb dX6_workOneUnit_15 (by decide) ?_
  refine lv_iadd hx hb dX6_workOneUnit_16 ?_
  refine db_putN hx hb hts hown hK hS 2 i (bb_kJ hi) rfl db_c0 3 (by decide) wn_49 rfl rfl rfl (Nat.le_of_ble_eq_true rfl) rfl dX6_workOneUnit_17 (fun H locs hS => ?_)
  obtain ⟨X1, eX1⟩ : ∃ z, z = db_up X 2 i 3 ((X 2 i 3) + 1) := ⟨_, rfl⟩
  rw [← eX1] at hS
  refine lv_aload_n hx hb dX6_workOneUnit_20 rfl (lv_at hl 1 rfl) ?_
  refine db_get hx hb hts hown hK hS 0 0 (bb_k 0 rfl) rfl db_c6 2 (by decide) wd_174 rfl dX6_workOneUnit_21 ?_
  refine db_getN hx hb hts hown hK hS 4 0 (bb_k 4 rfl) rfl db_c4 1 (by decide) wn_133 rfl dX6_workOneUnit_24 ?_
  rw [show X1 4 0 1 = nI sz by rw [eX1]; simp [db_up]; exact hI.2.2.1]
  refine lv_iconst (v := 1) hx hb dX6_workOneUnit_27 (by decide) ?_
  refine lv_isub hx hb dX6_workOneUnit_28 ?_
  refine lv_istore_n (lv' := [(3, .int ((nI sz) - 1)), (2, .ref (L 2 i)), (0, .ref (L 0 0)), (1, .int (nI i))]) hx hb dX6_workOneUnit_29 rfl hl (by decide) rfl (fun ls hl => ?_)
  have K30 : ∀ (q : Nat) (v : Nat) (Xa : db_X) (hq : v + 1 ≤ q) (hv0 : v ≤ sz) (hIa : bb_I N cnt sz Xa) (hrem : bb_work N X sz i = bb_work2 (bb_workL N i v Xa) i) (H : Heap) (locs : List Loc) (hS : db_S Γ A s.heap L (bb_ok (N 0) cnt) (bb_cel Γ N L) Xa H locs) (ls : Array Slot) (hl : lv_has ls 5 [(0, .ref (L 0 0)), (1, .int (nI i)), (2, .ref (L 2 i)), (3, .int (nI v - 1))]), W p l e (db_rm 3 71) s m args below meth c H locs 0 0 Q (F0 m 30 ls []) := by
    intro q30
    induction q30 with
    | zero =>
      intro v Xa hq30 hv0 hIa hrem
      exact absurd hq30 (by omega)
    | succ q30 ih30 =>
      intro v Xa hq30 hv0 hIa hrem H locs hS ls hl
      refine lv_iload_n hx hb dX6_workOneUnit_30 rfl (lv_at hl 3 rfl) ?_
      refine lv_if_lt (tgt := 81) hx hb dX6_workOneUnit_31 (by decide) (fun c31 => ?_) (fun c31 => ?_)
      · have hv : v = 0 := by
          cases v with
          | zero => rfl
          | succ u => rw [nI_pred] at c31; exact absurd c31 (nI_pos (by have := hIa.2.2.2.1; omega))
        rw [hv] at hrem
        refine lv_aload_n hx hb dX6_workOneUnit_81 rfl (lv_at hl 2 rfl) ?_
        refine db_getN hx hb hts hown hK hS 2 i (bb_kJ hi) rfl db_c0 3 (by decide) wn_49 rfl dX6_workOneUnit_82 ?_
        refine lv_aload_n hx hb dX6_workOneUnit_85 rfl (lv_at hl 0 rfl) ?_
        refine db_get hx hb hts hown hK hS 0 0 (bb_k 0 rfl) rfl db_c6 0 (by decide) wd_172 rfl dX6_workOneUnit_86 ?_
        refine lv_iload_n hx hb dX6_workOneUnit_89 rfl (lv_at hl 1 rfl) ?_
        refine db_ald hx hb hK hS 11 0 (bb_k 11 rfl) 2 rfl rfl i rfl hi hn0 rfl dX6_workOneUnit_90 ?_
        refine db_getN hx hb hts hown hK hS 1 i (bb_kT hi) rfl db_c5 3 (by decide) wn_77 rfl dX6_workOneUnit_91 ?_
        refine lv_icmp_ne (tgt := 112) hx hb dX6_workOneUnit_94 (by decide) (fun c94 => ?_) (fun c94 => ?_)
        · exact hret _ _ _ _ _ hS (by rw [hrem]; show Xa = bb_work2 Xa i; rw [bb_work2, if_neg c94]) dX6_workOneUnit_112
        · refine lv_aload_n hx hb dX6_workOneUnit_97 rfl (lv_at hl 0 rfl) ?_
          refine db_get hx hb hts hown hK hS 0 0 (bb_k 0 rfl) rfl db_c6 0 (by decide) wd_172 rfl dX6_workOneUnit_98 ?_
          refine lv_iload_n hx hb dX6_workOneUnit_101 rfl (lv_at hl 1 rfl) ?_
          refine db_ald hx hb hK hS 11 0 (bb_k 11 rfl) 2 rfl rfl i rfl hi hn0 rfl dX6_workOneUnit_102 ?_
          refine lv_aload_n hx hb dX6_workOneUnit_103 rfl (lv_at hl 0 rfl) ?_
          refine db_get hx hb hts hown hK hS 0 0 (bb_k 0 rfl) rfl db_c6 6 (by decide) wd_178 rfl dX6_workOneUnit_104 ?_
          refine lv_iconst (v := 1) hx hb dX6_workOneUnit_107 (by decide) ?_
          refine lv_iadd hx hb dX6_workOneUnit_108 ?_
          refine db_cVN (As := [.int ((Xa 0 0 6) + 1)]) (rest := []) (st1 := []) hC hS 1 i (bb_kT hi) rfl db_c5 (c_X5_endJob l Γ N L cnt Xa hN ((Xa 0 0 6) + 1) i hi) (cw_X5_endJob (Nat.le_of_ble_eq_true rfl) (Nat.le_of_ble_eq_true rfl)) wn_340 wd_342 ws_24 rfl hl.1 rfl (Nat.le_of_ble_eq_true rfl) dX6_workOneUnit_109 ⟨Nat.le_of_ble_eq_true rfl, Nat.le_of_ble_eq_true rfl⟩ rfl (fun H locs hS => ?_)
          obtain ⟨X2, eX2⟩ : ∃ z, z = bb_endJ Xa i ((Xa 0 0 6) + 1) := ⟨_, rfl⟩
          rw [← eX2] at hS
          exact hret _ _ _ _ _ hS (by rw [hrem]; show X2 = bb_work2 Xa i; rw [bb_work2, if_pos c94, eX2]) dX6_workOneUnit_112
      · obtain ⟨u, rfl⟩ : ∃ u, v = u + 1 := by
          cases v with
          | zero => exact absurd (show nI 0 - 1 < 0 by decide +kernel) c31
          | succ u => exact ⟨u, rfl⟩
        rw [nI_pred] at hl
        have hu : u < sz := by omega
        have hlk : db_in (bb_sec Xa u 2) (N 1) := (hIa.2.2.2.2 u hu).2
        refine lv_aload_n hx hb dX6_workOneUnit_34 rfl (lv_at hl 0 rfl) ?_
        refine db_get hx hb hts hown hK hS 0 0 (bb_k 0 rfl) rfl db_c6 2 (by decide) wd_174 rfl dX6_workOneUnit_35 ?_
        refine db_getN hx hb hts hown hK hS 4 0 (bb_k 4 rfl) rfl db_c4 0 (by decide) wn_131 rfl dX6_workOneUnit_38 ?_
        refine lv_iload_n hx hb dX6_workOneUnit_41 rfl (lv_at hl 3 rfl) ?_
        refine db_ald hx hb hK hS 5 0 (bb_k 5 rfl) 3 rfl rfl u rfl (Nat.lt_of_lt_of_le hu hIa.2.2.2.1) hn2 (bb_rowf (hIa.2.2.2.2 u hu).1 hcn) dX6_workOneUnit_42 ?_
        refine lv_astore (lv' := [(4, .ref (L 12 ((Xa 5 0 u).toNatClampNeg))), (0, .ref (L 0 0)), (1, .int (nI i)), (2, .ref (L 2 i)), (3, .int (nI u))]) hx hb dX6_workOneUnit_43 hl (by decide) rfl (fun ls hl => ?_)
        refine lv_aload hx hb dX6_workOneUnit_45 (lv_at hl 0 rfl) ?_
        refine db_getN hx hb hts hown hK hS 12 ((Xa 5 0 u).toNatClampNeg) (bb_kS ((hIa.2.2.2.2 u hu).1.lt hcn)) rfl db_c3 0 (by decide) wn_225 rfl dX6_workOneUnit_47 ?_
        refine lv_iload_n hx hb dX6_workOneUnit_50 rfl (lv_at hl 2 rfl) ?_
        refine lv_icmp_ne (tgt := 75) hx hb dX6_workOneUnit_51 (by decide) (fun c51 => ?_) (fun c51 => ?_)
        · have c51 : ¬ bb_sec Xa u 0 = nI i := c51
          refine lv_iinc (v := ((nI u) - 1)) (lv' := [(3, .int ((nI u) - 1)), (4, .ref (L 12 ((Xa 5 0 u).toNatClampNeg))), (0, .ref (L 0 0)), (1, .int (nI i)), (2, .ref (L 2 i))]) hx hb dX6_workOneUnit_75 hl (k := 4) rfl (by rw [Int32.sub_eq_add_neg]; rfl) (by decide) rfl (fun ls hl => ?_)
          refine lv_goto (tgt := 30) hx hb dX6_workOneUnit_78 (by decide) ?_
          exact ih30 u Xa (by omega) (by omega) hIa (by rw [hrem, bb_workL, if_pos c51]) _ _ hS _ (lv_sub hl [2, 3, 4, 0] rfl)
        · have c51 : bb_sec Xa u 0 = nI i := c51
          refine lv_aload hx hb dX6_workOneUnit_54 (lv_at hl 0 rfl) ?_
          refine db_getN hx hb hts hown hK hS 12 ((Xa 5 0 u).toNatClampNeg) (bb_kS ((hIa.2.2.2.2 u hu).1.lt hcn)) rfl db_c3 4 (by decide) wn_232 rfl dX6_workOneUnit_56 ?_
          refine lv_aload_n hx hb dX6_workOneUnit_59 rfl (lv_at hl 3 rfl) ?_
          refine db_getN hx hb hts hown hK hS 2 i (bb_kJ hi) rfl db_c0 3 (by decide) wn_49 rfl dX6_workOneUnit_60 ?_
          refine lv_icmp_ne (tgt := 75) hx hb dX6_workOneUnit_63 (by decide) (fun c63 => ?_) (fun c63 => ?_)
          · have c63 : ¬ bb_sec Xa u 4 = Xa 2 i 3 := c63
            refine lv_iinc (v := ((nI u) - 1)) (lv' := [(3, .int ((nI u) - 1)), (4, .ref (L 12 ((Xa 5 0 u).toNatClampNeg))), (0, .ref (L 0 0)), (1, .int (nI i)), (2, .ref (L 2 i))]) hx hb dX6_workOneUnit_75 hl (k := 4) rfl (by rw [Int32.sub_eq_add_neg]; rfl) (by decide) rfl (fun ls hl => ?_)
            refine lv_goto (tgt := 30) hx hb dX6_workOneUnit_78 (by decide) ?_
            exact ih30 u Xa (by omega) (by omega) hIa (by rw [hrem, bb_workL, if_neg (fun q => q c51), if_pos c63]) _ _ hS _ (lv_sub hl [2, 3, 4, 0] rfl)
          · have c63 : bb_sec Xa u 4 = Xa 2 i 3 := c63
            refine lv_aload_n hx hb dX6_workOneUnit_66 rfl (lv_at hl 1 rfl) ?_
            refine lv_aload hx hb dX6_workOneUnit_67 (lv_at hl 0 rfl) ?_
            refine db_getN hx hb hts hown hK hS 12 ((Xa 5 0 u).toNatClampNeg) (bb_kS ((hIa.2.2.2.2 u hu).1.lt hcn)) rfl db_c3 2 (by decide) wn_229 rfl dX6_workOneUnit_69 ?_
            refine db_cV (As := [.int (Xa 12 ((Xa 5 0 u).toNatClampNeg) 2)]) (rest := []) (st1 := []) hC hS 0 0 (bb_k 0 rfl) rfl db_c6 (c_X6_letGo' l Γ N L cnt Xa hN (Xa 12 ((Xa 5 0 u).toNatClampNeg) 2) sz hIa hlk) (cw_X6_letGo (Nat.le_of_ble_eq_true rfl) (Nat.le_of_ble_eq_true rfl)) wd_272 wd_274 ws_9 rfl hl.1 rfl (Nat.le_of_ble_eq_true rfl) dX6_workOneUnit_72 ⟨Nat.le_of_ble_eq_true rfl, Nat.le_of_ble_eq_true rfl⟩ rfl (fun H locs hS => ?_)
            obtain ⟨X3, eX3⟩ : ∃ z, z = bb_letGo N Xa (Xa 12 ((Xa 5 0 u).toNatClampNeg) 2).toNatClampNeg := ⟨_, rfl⟩
            rw [← eX3] at hS
            refine lv_iinc (v := ((nI u) - 1)) (lv' := [(3, .int ((nI u) - 1)), (4, .ref (L 12 ((Xa 5 0 u).toNatClampNeg))), (0, .ref (L 0 0)), (1, .int (nI i)), (2, .ref (L 2 i))]) hx hb dX6_workOneUnit_75 hl (k := 4) rfl (by rw [Int32.sub_eq_add_neg]; rfl) (by decide) rfl (fun ls hl => ?_)
            refine lv_goto (tgt := 30) hx hb dX6_workOneUnit_78 (by decide) ?_
            exact ih30 u X3 (by omega) (by omega) (by rw [eX3]; exact hIa.letGo) (by rw [hrem, bb_workL, if_neg (fun q => q c51), if_neg (fun q => q c63), eX3]; rfl) _ _ hS _ (lv_sub hl [2, 3, 4, 0] rfl)
  exact K30 _ sz X1 (Nat.le_refl _) (Nat.le_refl _) (by rw [eX1]; exact hI.up rfl) (by rw [eX1]; rfl) _ _ hS _ (lv_sub hl [2, 3, 1, 0] rfl)

theorem c_X6_workOneUnit' (l : Launch) (Γ : db_G) (N : Nat → Nat) (L : Nat → Nat → Nat) (cnt : Nat) (X : db_X) (hN : bb_N N) (t : Int32) (sz : Nat) (hI : bb_I N cnt sz X) (hcn : cnt < 2 ^ 31) (ht : db_in t (N 0)) : db_C l Γ yX6_workOneUnit cX6_workOneUnit 5 none (db_rm 3 71) [.ref (L 0 0), .int t] L (bb_ok (N 0) cnt) (bb_cel Γ N L) X none (bb_work N X sz t.toNatClampNeg) := by
  have hn0 : N 0 < 2 ^ 31 := by have := hN.2.1; omega
  have h := c_X6_workOneUnit l Γ N L cnt X hN sz t.toNatClampNeg hI hcn (ht.lt hn0)
  rw [← ht.eq hn0] at h
  exact h
