theorem mm_miss01 {N : Nat → Nat} {X : db_X} : ∀ i : Nat, (mm_miss N X i).1 = 0 ∨ (mm_miss N X i).1 = 1
  | 0 => Or.inl rfl
  | i + 1 => by
    have h := mm_miss01 (N := N) (X := X) i
    unfold mm_miss mm_ms1
    split
    · exact h
    · split
      · exact Or.inr rfl
      · exact h

set_option maxHeartbeats 4000000 in
set_option maxRecDepth 100000 in
theorem c_X7_misses (l : Launch) (Γ : db_G) (N : Nat → Nat) (L : Nat → Nat → Nat) (X : db_X) (hN : bb_N N) (sz tm : Nat) (hI : mm_I N sz X) (htm : X 0 0 30 = nI tm) (htm2 : tm + 40 < 2 ^ 31) : db_C l Γ yX7_misses cX7_misses 3 (some .boolean) (db_rm 6 132) [.ref (L 0 0)] L mm_ok (mm_cel Γ N L) X (some (.int ((mm_miss N X (N 0)).1))) ((mm_miss N X (N 0)).2) := by
  have hn0 : N 0 < 2 ^ 31 := by have := hN.2.1; omega
  have hn1 : N 1 < 2 ^ 31 := by have := hN.2.2.1; omega
  have hn2 : N 2 < 2 ^ 31 := by have := hN.2.2.2.1; omega
  have hn3 : N 3 < 2 ^ 31 := by have := hN.2.2.2.2; omega
  refine db_introZ (by decide +kernel) (Nat.le_of_ble_eq_true rfl) (mm_miss01 _) ?_
  intro p e s m args below meth c A Q ls hC hS hl hret
  have hC : db_Cx p s m args meth c Γ RX7 cX7_misses 3 (some .boolean) := hC
  obtain ⟨hx, hb, hml, hr, hlocks, hown, hts, hK⟩ := id hC
  have hl : lv_has ls 3 [(0, .ref (L 0 0))] := hl
  have hN40 : N 0 ≤ 40 := hN.2.1
  refine lv_iconst (v := 0) hx hb dX7_misses_0 (by decide) ?_
  refine lv_istore_n (lv' := [(1, .int 0), (0, .ref (L 0 0))]) hx hb dX7_misses_1 rfl hl (by decide) rfl (fun ls hl => ?_)
  refine lv_iconst (v := 0) hx hb dX7_misses_2 (by decide) ?_
  refine lv_istore_n (lv' := [(2, .int 0), (1, .int 0), (0, .ref (L 0 0))]) hx hb dX7_misses_3 rfl hl (by decide) rfl (fun ls hl => ?_)
  have K4 : ∀ (q : Nat) (i : Nat) (an : Int32) (Xa : db_X) (hq : N 0 + 1 - i ≤ q) (hi0 : i ≤ N 0) (er : (an, Xa) = mm_miss N X i) (H : Heap) (locs : List Loc) (hS : db_S Γ A s.heap L mm_ok (mm_cel Γ N L) Xa H locs) (ls : Array Slot) (hl : lv_has ls 3 [(0, .ref (L 0 0)), (1, .int an), (2, .int (nI i))]), W p l e (db_rm 6 132) s m args below meth c H locs 0 0 Q (F0 m 4 ls []) := by
    intro q4
    induction q4 with
    | zero =>
      intro i an Xa hq4 hi0 er
      exact absurd hq4 (by omega)
    | succ q4 ih4 =>
      intro i an Xa hq4 hi0 er H locs hS ls hl
      have hIa : mm_I N sz Xa := by have h9 := hI.miss i; rw [← er] at h9; exact h9
      obtain ⟨ta, hta, eta⟩ := mm_miss_tot (N := N) htm i
      rw [← er] at eta
      have h0a : ¬ Xa 0 0 30 < 0 := by rw [show Xa 0 0 30 = nI ta from eta]; exact nI_pos (by omega)
      refine lv_iload_n hx hb dX7_misses_4 rfl (lv_at hl 2 rfl) ?_
      refine lv_aload_n hx hb dX7_misses_5 rfl (lv_at hl 0 rfl) ?_
      refine db_get hx hb hts hown hK hS 0 0 (mm_k 0 rfl) rfl db_c7 0 (by decide) wd_441 rfl dX7_misses_6 ?_
      refine lv_icmp_ge (tgt := 103) hx hb dX7_misses_9 (by decide) (fun c9 => ?_) (fun c9 => ?_)
      · have hi : i = N 0 := by
          rcases Nat.lt_or_ge i (N 0) with q9 | q9
          · exact absurd c9 (nI_ge q9 hn0)
          · omega
        refine lv_iload_n hx hb dX7_misses_103 rfl (lv_at hl 1 rfl) ?_
        exact hret _ _ _ _ _ _ hS (by rw [← hi, ← er]) (by rw [← hi, ← er]) dX7_misses_104
      · have hi : i < N 0 := by
          rcases Nat.lt_or_ge i (N 0) with q9 | q9
          · exact q9
          · exact absurd (nI_le q9 (by omega)) c9
        refine lv_aload_n hx hb dX7_misses_12 rfl (lv_at hl 0 rfl) ?_
        refine lv_iload_n hx hb dX7_misses_13 rfl (lv_at hl 2 rfl) ?_
        refine db_cV (As := [.int (nI i)]) (rest := []) (st1 := [.int (mm_isP N Xa (nI i))]) hC hS 0 0 (mm_k 0 rfl) rfl db_c7 (c_X7_isPending l Γ N L Xa hN (nI i) ) (cw_X7_isPending (Nat.le_of_ble_eq_true rfl) (Nat.le_of_ble_eq_true rfl)) wd_591 wd_593 ws_41 rfl hl.1 rfl (Nat.le_of_ble_eq_true rfl) dX7_misses_14 ⟨Nat.le_of_ble_eq_true rfl, Nat.le_of_ble_eq_true rfl⟩ rfl (fun H locs hS => ?_)
        refine lv_if_eq (tgt := 97) hx hb dX7_misses_17 (by decide) (fun c17 => ?_) (fun c17 => ?_)
        · refine lv_iinc (v := (nI (i + 1))) (lv' := [(2, .int (nI (i + 1))), (0, .ref (L 0 0)), (1, .int an)]) hx hb dX7_misses_97 hl (k := 2) rfl (nI_1 _) (by decide) rfl (fun ls hl => ?_)
          refine lv_goto (tgt := 4) hx hb dX7_misses_100 (by decide) ?_
          exact ih4 (i + 1) an Xa (by omega) hi (by rw [mm_miss, mm_ms1, ← er, if_pos c17]) _ _ hS _ (lv_sub hl [1, 2, 0] rfl)
        · refine lv_aload_n hx hb dX7_misses_20 rfl (lv_at hl 0 rfl) ?_
          refine db_get hx hb hts hown hK hS 0 0 (mm_k 0 rfl) rfl db_c7 19 (by decide) wd_460 rfl dX7_misses_21 ?_
          refine lv_iload_n hx hb dX7_misses_24 rfl (lv_at hl 2 rfl) ?_
          refine db_ild hx hb hK hS 19 0 (mm_k 19 rfl) rfl i rfl (Nat.lt_of_lt_of_le hi hN.2.1) (by decide) dX7_misses_25 ?_
          refine lv_aload_n hx hb dX7_misses_26 rfl (lv_at hl 0 rfl) ?_
          refine db_get hx hb hts hown hK hS 0 0 (mm_k 0 rfl) rfl db_c7 5 (by decide) wd_446 rfl dX7_misses_27 ?_
          refine lv_icmp_eq (tgt := 36) hx hb dX7_misses_30 (by decide) (fun c30 => ?_) (fun c30 => ?_)
          · refine lv_iconst (v := 1) hx hb dX7_misses_36 (by decide) ?_
            refine lv_istore_n (lv' := [(1, .int 1), (0, .ref (L 0 0)), (2, .int (nI i))]) hx hb dX7_misses_37 rfl hl (by decide) rfl (fun ls hl => ?_)
            refine lv_aload_n hx hb dX7_misses_38 rfl (lv_at hl 1 rfl) ?_
            refine db_get hx hb hts hown hK hS 0 0 (mm_k 0 rfl) rfl db_c7 13 (by decide) wd_454 rfl dX7_misses_39 ?_
            refine lv_iload_n hx hb dX7_misses_42 rfl (lv_at hl 2 rfl) ?_
            refine lv_dup2_11 hx hb dX7_misses_43 rfl rfl ?_
            refine db_ild hx hb hK hS 13 0 (mm_k 13 rfl) rfl i rfl (Nat.lt_of_lt_of_le hi hN.2.1) (by decide) dX7_misses_44 ?_
            refine lv_iconst (v := 1) hx hb dX7_misses_45 (by decide) ?_
            refine lv_iadd hx hb dX7_misses_46 ?_
            refine db_ist hx hb hK hS 13 0 (mm_k 13 rfl) (fun _ => rfl) i rfl (Nat.lt_of_lt_of_le hi hN.2.1) (by decide) dX7_misses_47 (fun H locs hS => ?_)
            obtain ⟨X1, eX1⟩ : ∃ z, z = db_up Xa 13 0 i ((Xa 13 0 i) + 1) := ⟨_, rfl⟩
            rw [← eX1] at hS
            have hm1 : X1 = mm_m1 Xa i := by rw [eX1]; rfl
            have h0b : ¬ X1 0 0 30 < 0 := by rw [eX1]; simp [db_up]; exact Int32.not_lt.mp h0a
            have K82 : ∀ (Xb : db_X) (eXb : mm_mlog N (mm_m1 Xa i) i = mm_m3 Xb) (H : Heap) (locs : List Loc) (hS : db_S Γ A s.heap L mm_ok (mm_cel Γ N L) Xb H locs) (ls : Array Slot) (hl : lv_has ls 3 [(0, .ref (L 0 0)), (1, .int 1), (2, .int (nI i))]), W p l e (db_rm 6 132) s m args below meth c H locs 0 0 Q (F0 m 82 ls []) := by
              intro Xb eXb H locs hS ls hl
              refine lv_aload_n hx hb dX7_misses_82 rfl (lv_at hl 0 rfl) ?_
              refine lv_dup hx hb dX7_misses_83 rfl ?_
              refine db_get hx hb hts hown hK hS 0 0 (mm_k 0 rfl) rfl db_c7 30 (by decide) wd_471 rfl dX7_misses_84 ?_
              refine lv_iconst (v := 1) hx hb dX7_misses_87 (by decide) ?_
              refine lv_iadd hx hb dX7_misses_88 ?_
              refine db_put hx hb hts hown hK hS 0 0 (mm_k 0 rfl) rfl db_c7 30 (by decide) wd_471 rfl rfl rfl (Nat.le_of_ble_eq_true rfl) rfl dX7_misses_89 (fun H locs hS => ?_)
              obtain ⟨X2, eX2⟩ : ∃ z, z = db_up Xb 0 0 30 ((Xb 0 0 30) + 1) := ⟨_, rfl⟩
              rw [← eX2] at hS
              have h82 : X2 = mm_mlog N (mm_m1 Xa i) i := by rw [eXb, eX2]; rfl
              have hIb : mm_I N sz X2 := by rw [h82]; exact mm_I.mlog (hIa.up rfl)
              refine lv_aload_n hx hb dX7_misses_92 rfl (lv_at hl 0 rfl) ?_
              refine lv_iload_n hx hb dX7_misses_93 rfl (lv_at hl 2 rfl) ?_
              refine db_cV (As := [.int (nI i)]) (rest := []) (st1 := []) hC hS 0 0 (mm_k 0 rfl) rfl db_c7 (c_X7_drops l Γ N L X2 hN sz i hIb hi) (cw_X7_drops (Nat.le_of_ble_eq_true rfl) (Nat.le_of_ble_eq_true rfl)) wd_575 wd_577 ws_37 rfl hl.1 rfl (Nat.le_of_ble_eq_true rfl) dX7_misses_94 ⟨Nat.le_of_ble_eq_true rfl, Nat.le_of_ble_eq_true rfl⟩ rfl (fun H locs hS => ?_)
              obtain ⟨X3, eX3⟩ : ∃ z, z = mm_drop N X2 i := ⟨_, rfl⟩
              rw [← eX3] at hS
              refine lv_iinc (v := (nI (i + 1))) (lv' := [(2, .int (nI (i + 1))), (0, .ref (L 0 0)), (1, .int 1)]) hx hb dX7_misses_97 hl (k := 2) rfl (nI_1 _) (by decide) rfl (fun ls hl => ?_)
              refine lv_goto (tgt := 4) hx hb dX7_misses_100 (by decide) ?_
              exact ih4 (i + 1) 1 X3 (by omega) hi (by rw [mm_miss, mm_ms1, ← er, if_neg c17, if_pos c30, eX3]; rw [← h82]) _ _ hS _ (lv_sub hl [1, 2, 0] rfl)
            refine lv_aload_n hx hb dX7_misses_48 rfl (lv_at hl 1 rfl) ?_
            refine db_get hx hb hts hown hK hS 0 0 (mm_k 0 rfl) rfl db_c7 30 (by decide) wd_471 rfl dX7_misses_49 ?_
            refine lv_aload_n hx hb dX7_misses_52 rfl (lv_at hl 1 rfl) ?_
            refine db_get hx hb hts hown hK hS 0 0 (mm_k 0 rfl) rfl db_c7 3 (by decide) wd_444 rfl dX7_misses_53 ?_
            refine lv_icmp_ge (tgt := 82) hx hb dX7_misses_56 (by decide) (fun c56 => ?_) (fun c56 => ?_)
            · exact K82 X1 (by rw [mm_mlog, ← hm1, if_pos c56]) _ _ hS _ (lv_sub hl [1, 0, 2] rfl)
            · have h9 : db_in (X1 0 0 30) (N 3) := db_ix hn3 h0b c56
              refine lv_aload_n hx hb dX7_misses_59 rfl (lv_at hl 1 rfl) ?_
              refine db_get hx hb hts hown hK hS 0 0 (mm_k 0 rfl) rfl db_c7 31 (by decide) wd_472 rfl dX7_misses_60 ?_
              refine lv_aload_n hx hb dX7_misses_63 rfl (lv_at hl 1 rfl) ?_
              refine db_get hx hb hts hown hK hS 0 0 (mm_k 0 rfl) rfl db_c7 30 (by decide) wd_471 rfl dX7_misses_64 ?_
              refine lv_iload_n hx hb dX7_misses_67 rfl (lv_at hl 2 rfl) ?_
              refine db_ist hx hb hK hS 31 0 (mm_k 31 rfl) (fun _ => rfl) ((X1 0 0 30).toNatClampNeg) (h9.eq hn3) (Nat.lt_of_lt_of_le (h9.lt hn3) hN.2.2.2.2) (by decide) dX7_misses_68 (fun H locs hS => ?_)
              obtain ⟨X4, eX4⟩ : ∃ z, z = db_up X1 31 0 ((X1 0 0 30).toNatClampNeg) (nI i) := ⟨_, rfl⟩
              rw [← eX4] at hS
              have h91 : X4 0 0 30 = X1 0 0 30 := by rw [eX4]; simp [db_up]
              have h9b : db_in (X4 0 0 30) (N 3) := by rw [h91]; exact h9
              refine lv_aload_n hx hb dX7_misses_69 rfl (lv_at hl 1 rfl) ?_
              refine db_get hx hb hts hown hK hS 0 0 (mm_k 0 rfl) rfl db_c7 32 (by decide) wd_473 rfl dX7_misses_70 ?_
              refine lv_aload_n hx hb dX7_misses_73 rfl (lv_at hl 1 rfl) ?_
              refine db_get hx hb hts hown hK hS 0 0 (mm_k 0 rfl) rfl db_c7 30 (by decide) wd_471 rfl dX7_misses_74 ?_
              refine lv_aload_n hx hb dX7_misses_77 rfl (lv_at hl 1 rfl) ?_
              refine db_get hx hb hts hown hK hS 0 0 (mm_k 0 rfl) rfl db_c7 5 (by decide) wd_446 rfl dX7_misses_78 ?_
              refine db_ist hx hb hK hS 32 0 (mm_k 32 rfl) (fun _ => rfl) ((X4 0 0 30).toNatClampNeg) (h9b.eq hn3) (Nat.lt_of_lt_of_le (h9b.lt hn3) hN.2.2.2.2) (by decide) dX7_misses_81 (fun H locs hS => ?_)
              obtain ⟨X5, eX5⟩ : ∃ z, z = db_up X4 32 0 ((X4 0 0 30).toNatClampNeg) (X4 0 0 5) := ⟨_, rfl⟩
              rw [← eX5] at hS
              exact K82 X5 (by rw [mm_mlog, ← hm1, if_neg c56, eX5, eX4]; rfl) _ _ hS _ (lv_sub hl [1, 0, 2] rfl)
          · refine lv_goto (tgt := 97) hx hb dX7_misses_33 (by decide) ?_
            refine lv_iinc (v := (nI (i + 1))) (lv' := [(2, .int (nI (i + 1))), (0, .ref (L 0 0)), (1, .int an)]) hx hb dX7_misses_97 hl (k := 2) rfl (nI_1 _) (by decide) rfl (fun ls hl => ?_)
            refine lv_goto (tgt := 4) hx hb dX7_misses_100 (by decide) ?_
            exact ih4 (i + 1) an Xa (by omega) hi (by rw [mm_miss, mm_ms1, ← er, if_neg c17, if_neg c30]) _ _ hS _ (lv_sub hl [1, 2, 0] rfl)
  exact K4 _ 0 0 X (Nat.le_refl _) (Nat.zero_le _) rfl _ _ hS _ (lv_sub hl [2, 1, 0] rfl)

set_option maxHeartbeats 4000000 in
set_option maxRecDepth 100000 in
theorem c_X7_releases (l : Launch) (Γ : db_G) (N : Nat → Nat) (L : Nat → Nat → Nat) (X : db_X) (hN : bb_N N) : db_C l Γ yX7_releases cX7_releases 2 (none) (db_rm 0 0) [.ref (L 0 0)] L mm_ok (mm_cel Γ N L) X none (mm_rls X (N 0)) := by
  have hn0 : N 0 < 2 ^ 31 := by have := hN.2.1; omega
  have hn1 : N 1 < 2 ^ 31 := by have := hN.2.2.1; omega
  have hn2 : N 2 < 2 ^ 31 := by have := hN.2.2.2.1; omega
  have hn3 : N 3 < 2 ^ 31 := by have := hN.2.2.2.2; omega
  refine db_introV (by decide +kernel) (Nat.le_of_ble_eq_true rfl) ?_
  intro p e s m args below meth c A Q ls hC hS hl hret
  have hC : db_Cx p s m args meth c Γ RX7 cX7_releases 2 (none) := hC
  obtain ⟨hx, hb, hml, hr, hlocks, hown, hts, hK⟩ := id hC
  have hl : lv_has ls 2 [(0, .ref (L 0 0))] := hl
  refine lv_iconst (v := 0) hx hb dX7_releases_0 (by decide) ?_
  refine lv_istore_n (lv' := [(1, .int 0), (0, .ref (L 0 0))]) hx hb dX7_releases_1 rfl hl (by decide) rfl (fun ls hl => ?_)
  have K2 : ∀ (q : Nat) (i : Nat) (Xa : db_X) (hq : N 0 + 1 - i ≤ q) (hi0 : i ≤ N 0) (eXa : Xa = mm_rls X i) (H : Heap) (locs : List Loc) (hS : db_S Γ A s.heap L mm_ok (mm_cel Γ N L) Xa H locs) (ls : Array Slot) (hl : lv_has ls 2 [(0, .ref (L 0 0)), (1, .int (nI i))]), W p l e (db_rm 0 0) s m args below meth c H locs 0 0 Q (F0 m 2 ls []) := by
    intro q2
    induction q2 with
    | zero =>
      intro i Xa hq2 hi0 eXa
      exact absurd hq2 (by omega)
    | succ q2 ih2 =>
      intro i Xa hq2 hi0 eXa H locs hS ls hl
      refine lv_iload_n hx hb dX7_releases_2 rfl (lv_at hl 1 rfl) ?_
      refine lv_aload_n hx hb dX7_releases_3 rfl (lv_at hl 0 rfl) ?_
      refine db_get hx hb hts hown hK hS 0 0 (mm_k 0 rfl) rfl db_c7 0 (by decide) wd_441 rfl dX7_releases_4 ?_
      refine lv_icmp_ge (tgt := 121) hx hb dX7_releases_7 (by decide) (fun c7 => ?_) (fun c7 => ?_)
      · have hi : i = N 0 := by
          rcases Nat.lt_or_ge i (N 0) with q9 | q9
          · exact absurd c7 (nI_ge q9 hn0)
          · omega
        exact hret _ _ _ _ _ hS (by rw [eXa, hi]) dX7_releases_121
      · have hi : i < N 0 := by
          rcases Nat.lt_or_ge i (N 0) with q9 | q9
          · exact q9
          · exact absurd (nI_le q9 (by omega)) c7
        refine lv_aload_n hx hb dX7_releases_10 rfl (lv_at hl 0 rfl) ?_
        refine db_get hx hb hts hown hK hS 0 0 (mm_k 0 rfl) rfl db_c7 6 (by decide) wd_447 rfl dX7_releases_11 ?_
        refine lv_iload_n hx hb dX7_releases_14 rfl (lv_at hl 1 rfl) ?_
        refine db_zld hx hb hK hS 6 0 (mm_k 6 rfl) rfl i rfl (Nat.lt_of_lt_of_le hi hN.2.1) (by decide) dX7_releases_15 ?_
        refine lv_if_eq (tgt := 115) hx hb dX7_releases_16 (by decide) (fun c16 => ?_) (fun c16 => ?_)
        · refine lv_iinc (v := (nI (i + 1))) (lv' := [(1, .int (nI (i + 1))), (0, .ref (L 0 0))]) hx hb dX7_releases_115 hl (k := 1) rfl (nI_1 _) (by decide) rfl (fun ls hl => ?_)
          refine lv_goto (tgt := 2) hx hb dX7_releases_118 (by decide) ?_
          exact ih2 (i + 1) Xa (by omega) hi (by rw [mm_rls, mm_rls1, ← eXa, if_pos c16]) _ _ hS _ (lv_sub hl [1, 0] rfl)
        · refine lv_aload_n hx hb dX7_releases_19 rfl (lv_at hl 0 rfl) ?_
          refine db_get hx hb hts hown hK hS 0 0 (mm_k 0 rfl) rfl db_c7 10 (by decide) wd_451 rfl dX7_releases_20 ?_
          refine lv_iload_n hx hb dX7_releases_23 rfl (lv_at hl 1 rfl) ?_
          refine db_ild hx hb hK hS 10 0 (mm_k 10 rfl) rfl i rfl (Nat.lt_of_lt_of_le hi hN.2.1) (by decide) dX7_releases_24 ?_
          refine lv_aload_n hx hb dX7_releases_25 rfl (lv_at hl 0 rfl) ?_
          refine db_get hx hb hts hown hK hS 0 0 (mm_k 0 rfl) rfl db_c7 5 (by decide) wd_446 rfl dX7_releases_26 ?_
          refine lv_icmp_eq (tgt := 35) hx hb dX7_releases_29 (by decide) (fun c29 => ?_) (fun c29 => ?_)
          · refine lv_aload_n hx hb dX7_releases_35 rfl (lv_at hl 0 rfl) ?_
            refine db_get hx hb hts hown hK hS 0 0 (mm_k 0 rfl) rfl db_c7 17 (by decide) wd_458 rfl dX7_releases_36 ?_
            refine lv_iload_n hx hb dX7_releases_39 rfl (lv_at hl 1 rfl) ?_
            refine lv_iconst (v := 1) hx hb dX7_releases_40 (by decide) ?_
            refine db_zst hx hb hK hS 17 0 (mm_k 17 rfl) (fun _ => rfl) i rfl (Nat.lt_of_lt_of_le hi hN.2.1) (by decide) (Or.inr rfl) dX7_releases_41 (fun H locs hS => ?_)
            obtain ⟨X1, eX1⟩ : ∃ z, z = db_up Xa 17 0 i 1 := ⟨_, rfl⟩
            rw [← eX1] at hS
            refine lv_aload_n hx hb dX7_releases_42 rfl (lv_at hl 0 rfl) ?_
            refine db_get hx hb hts hown hK hS 0 0 (mm_k 0 rfl) rfl db_c7 18 (by decide) wd_459 rfl dX7_releases_43 ?_
            refine lv_iload_n hx hb dX7_releases_46 rfl (lv_at hl 1 rfl) ?_
            refine lv_aload_n hx hb dX7_releases_47 rfl (lv_at hl 0 rfl) ?_
            refine db_get hx hb hts hown hK hS 0 0 (mm_k 0 rfl) rfl db_c7 5 (by decide) wd_446 rfl dX7_releases_48 ?_
            refine db_ist hx hb hK hS 18 0 (mm_k 18 rfl) (fun _ => rfl) i rfl (Nat.lt_of_lt_of_le hi hN.2.1) (by decide) dX7_releases_51 (fun H locs hS => ?_)
            obtain ⟨X2, eX2⟩ : ∃ z, z = db_up X1 18 0 i (X1 0 0 5) := ⟨_, rfl⟩
            rw [← eX2] at hS
            refine lv_aload_n hx hb dX7_releases_52 rfl (lv_at hl 0 rfl) ?_
            refine db_get hx hb hts hown hK hS 0 0 (mm_k 0 rfl) rfl db_c7 19 (by decide) wd_460 rfl dX7_releases_53 ?_
            refine lv_iload_n hx hb dX7_releases_56 rfl (lv_at hl 1 rfl) ?_
            refine lv_aload_n hx hb dX7_releases_57 rfl (lv_at hl 0 rfl) ?_
            refine db_get hx hb hts hown hK hS 0 0 (mm_k 0 rfl) rfl db_c7 5 (by decide) wd_446 rfl dX7_releases_58 ?_
            refine lv_aload_n hx hb dX7_releases_61 rfl (lv_at hl 0 rfl) ?_
            refine db_get hx hb hts hown hK hS 0 0 (mm_k 0 rfl) rfl db_c7 9 (by decide) wd_450 rfl dX7_releases_62 ?_
            refine lv_iload_n hx hb dX7_releases_65 rfl (lv_at hl 1 rfl) ?_
            refine db_ild hx hb hK hS 9 0 (mm_k 9 rfl) rfl i rfl (Nat.lt_of_lt_of_le hi hN.2.1) (by decide) dX7_releases_66 ?_
            refine lv_iadd hx hb dX7_releases_67 ?_
            refine db_ist hx hb hK hS 19 0 (mm_k 19 rfl) (fun _ => rfl) i rfl (Nat.lt_of_lt_of_le hi hN.2.1) (by decide) dX7_releases_68 (fun H locs hS => ?_)
            obtain ⟨X3, eX3⟩ : ∃ z, z = db_up X2 19 0 i ((X2 0 0 5) + (X2 9 0 i)) := ⟨_, rfl⟩
            rw [← eX3] at hS
            refine lv_aload_n hx hb dX7_releases_69 rfl (lv_at hl 0 rfl) ?_
            refine db_get hx hb hts hown hK hS 0 0 (mm_k 0 rfl) rfl db_c7 20 (by decide) wd_461 rfl dX7_releases_70 ?_
            refine lv_iload_n hx hb dX7_releases_73 rfl (lv_at hl 1 rfl) ?_
            refine lv_iconst (v := 0) hx hb dX7_releases_74 (by decide) ?_
            refine db_ist hx hb hK hS 20 0 (mm_k 20 rfl) (fun _ => rfl) i rfl (Nat.lt_of_lt_of_le hi hN.2.1) (by decide) dX7_releases_75 (fun H locs hS => ?_)
            obtain ⟨X4, eX4⟩ : ∃ z, z = db_up X3 20 0 i 0 := ⟨_, rfl⟩
            rw [← eX4] at hS
            refine lv_aload_n hx hb dX7_releases_76 rfl (lv_at hl 0 rfl) ?_
            refine db_get hx hb hts hown hK hS 0 0 (mm_k 0 rfl) rfl db_c7 21 (by decide) wd_462 rfl dX7_releases_77 ?_
            refine lv_iload_n hx hb dX7_releases_80 rfl (lv_at hl 1 rfl) ?_
            refine lv_iconst (v := -1) hx hb dX7_releases_81 (by decide) ?_
            refine db_ist hx hb hK hS 21 0 (mm_k 21 rfl) (fun _ => rfl) i rfl (Nat.lt_of_lt_of_le hi hN.2.1) (by decide) dX7_releases_82 (fun H locs hS => ?_)
            obtain ⟨X5, eX5⟩ : ∃ z, z = db_up X4 21 0 i (-1) := ⟨_, rfl⟩
            rw [← eX5] at hS
            refine lv_aload_n hx hb dX7_releases_83 rfl (lv_at hl 0 rfl) ?_
            refine db_get hx hb hts hown hK hS 0 0 (mm_k 0 rfl) rfl db_c7 22 (by decide) wd_463 rfl dX7_releases_84 ?_
            refine lv_iload_n hx hb dX7_releases_87 rfl (lv_at hl 1 rfl) ?_
            refine lv_iconst (v := 0) hx hb dX7_releases_88 (by decide) ?_
            refine db_zst hx hb hK hS 22 0 (mm_k 22 rfl) (fun _ => rfl) i rfl (Nat.lt_of_lt_of_le hi hN.2.1) (by decide) (Or.inl rfl) dX7_releases_89 (fun H locs hS => ?_)
            obtain ⟨X6, eX6⟩ : ∃ z, z = db_up X5 22 0 i 0 := ⟨_, rfl⟩
            rw [← eX6] at hS
            refine lv_aload_n hx hb dX7_releases_90 rfl (lv_at hl 0 rfl) ?_
            refine db_get hx hb hts hown hK hS 0 0 (mm_k 0 rfl) rfl db_c7 11 (by decide) wd_452 rfl dX7_releases_91 ?_
            refine lv_iload_n hx hb dX7_releases_94 rfl (lv_at hl 1 rfl) ?_
            refine lv_dup2_11 hx hb dX7_releases_95 rfl rfl ?_
            refine db_ild hx hb hK hS 11 0 (mm_k 11 rfl) rfl i rfl (Nat.lt_of_lt_of_le hi hN.2.1) (by decide) dX7_releases_96 ?_
            refine lv_iconst (v := 1) hx hb dX7_releases_97 (by decide) ?_
            refine lv_iadd hx hb dX7_releases_98 ?_
            refine db_ist hx hb hK hS 11 0 (mm_k 11 rfl) (fun _ => rfl) i rfl (Nat.lt_of_lt_of_le hi hN.2.1) (by decide) dX7_releases_99 (fun H locs hS => ?_)
            obtain ⟨X7, eX7⟩ : ∃ z, z = db_up X6 11 0 i ((X6 11 0 i) + 1) := ⟨_, rfl⟩
            rw [← eX7] at hS
            refine lv_aload_n hx hb dX7_releases_100 rfl (lv_at hl 0 rfl) ?_
            refine db_get hx hb hts hown hK hS 0 0 (mm_k 0 rfl) rfl db_c7 10 (by decide) wd_451 rfl dX7_releases_101 ?_
            refine lv_iload_n hx hb dX7_releases_104 rfl (lv_at hl 1 rfl) ?_
            refine lv_dup2_11 hx hb dX7_releases_105 rfl rfl ?_
            refine db_ild hx hb hK hS 10 0 (mm_k 10 rfl) rfl i rfl (Nat.lt_of_lt_of_le hi hN.2.1) (by decide) dX7_releases_106 ?_
            refine lv_aload_n hx hb dX7_releases_107 rfl (lv_at hl 0 rfl) ?_
            refine db_get hx hb hts hown hK hS 0 0 (mm_k 0 rfl) rfl db_c7 7 (by decide) wd_448 rfl dX7_releases_108 ?_
            refine lv_iload_n hx hb dX7_releases_111 rfl (lv_at hl 1 rfl) ?_
            refine db_ild hx hb hK hS 7 0 (mm_k 7 rfl) rfl i rfl (Nat.lt_of_lt_of_le hi hN.2.1) (by decide) dX7_releases_112 ?_
            refine lv_iadd hx hb dX7_releases_113 ?_
            refine db_ist hx hb hK hS 10 0 (mm_k 10 rfl) (fun _ => rfl) i rfl (Nat.lt_of_lt_of_le hi hN.2.1) (by decide) dX7_releases_114 (fun H locs hS => ?_)
            obtain ⟨X8, eX8⟩ : ∃ z, z = db_up X7 10 0 i ((X7 10 0 i) + (X7 7 0 i)) := ⟨_, rfl⟩
            rw [← eX8] at hS
            refine lv_iinc (v := (nI (i + 1))) (lv' := [(1, .int (nI (i + 1))), (0, .ref (L 0 0))]) hx hb dX7_releases_115 hl (k := 1) rfl (nI_1 _) (by decide) rfl (fun ls hl => ?_)
            refine lv_goto (tgt := 2) hx hb dX7_releases_118 (by decide) ?_
            exact ih2 (i + 1) X8 (by omega) hi (by rw [mm_rls, mm_rls1, ← eXa, if_neg c16, if_pos c29, eX8, eX7, eX6, eX5, eX4, eX3, eX2, eX1]; rfl) _ _ hS _ (lv_sub hl [1, 0] rfl)
          · refine lv_goto (tgt := 115) hx hb dX7_releases_32 (by decide) ?_
            refine lv_iinc (v := (nI (i + 1))) (lv' := [(1, .int (nI (i + 1))), (0, .ref (L 0 0))]) hx hb dX7_releases_115 hl (k := 1) rfl (nI_1 _) (by decide) rfl (fun ls hl => ?_)
            refine lv_goto (tgt := 2) hx hb dX7_releases_118 (by decide) ?_
            exact ih2 (i + 1) Xa (by omega) hi (by rw [mm_rls, mm_rls1, ← eXa, if_neg c16, if_neg c29]) _ _ hS _ (lv_sub hl [1, 0] rfl)
  exact K2 _ 0 X (Nat.le_refl _) (Nat.zero_le _) rfl _ _ hS _ (lv_sub hl [1, 0] rfl)

set_option maxHeartbeats 4000000 in
set_option maxRecDepth 100000 in
theorem c_X7_wanted (l : Launch) (Γ : db_G) (N : Nat → Nat) (L : Nat → Nat → Nat) (X : db_X) (hN : bb_N N) (sz i : Nat) (hI : mm_I N sz X) (hi : i < N 0) : db_C l Γ yX7_wanted cX7_wanted 4 (some .int) (db_rm 0 0) [.ref (L 0 0), .int (nI i)] L mm_ok (mm_cel Γ N L) X (some (.int (mm_want X sz i))) X := by
  have hn0 : N 0 < 2 ^ 31 := by have := hN.2.1; omega
  have hn1 : N 1 < 2 ^ 31 := by have := hN.2.2.1; omega
  have hn2 : N 2 < 2 ^ 31 := by have := hN.2.2.2.1; omega
  have hn3 : N 3 < 2 ^ 31 := by have := hN.2.2.2.2; omega
  refine db_introI (by decide +kernel) (Nat.le_of_ble_eq_true rfl) ?_
  intro p e s m args below meth c A Q ls hC hS hl hret
  have hC : db_Cx p s m args meth c Γ RX7 cX7_wanted 4 (some .int) := hC
  obtain ⟨hx, hb, hml, hr, hlocks, hown, hts, hK⟩ := id hC
  have hl : lv_has ls 4 [(0, .ref (L 0 0)), (1, .int (nI i))] := hl
  have hsz : sz < 2 ^ 31 := by have := hI.2.2.2.1; omega
  refine lv_iconst (v := -1) hx hb dX7_wanted_0 (by decide) ?_
  refine lv_istore_n (lv' := [(2, .int (-1)), (0, .ref (L 0 0)), (1, .int (nI i))]) hx hb dX7_wanted_1 rfl hl (by decide) rfl (fun ls hl => ?_)
  refine lv_iconst (v := 0) hx hb dX7_wanted_2 (by decide) ?_
  refine lv_istore_n (lv' := [(3, .int 0), (2, .int (-1)), (0, .ref (L 0 0)), (1, .int (nI i))]) hx hb dX7_wanted_3 rfl hl (by decide) rfl (fun ls hl => ?_)
  have K4 : ∀ (q : Nat) (u : Nat) (b : Int32) (hq : sz + 1 - u ≤ q) (hu0 : u ≤ sz) (ebs : b = db_bs (mm_wsel X i) (mm_wwor X) u) (H : Heap) (locs : List Loc) (hS : db_S Γ A s.heap L mm_ok (mm_cel Γ N L) X H locs) (ls : Array Slot) (hl : lv_has ls 4 [(0, .ref (L 0 0)), (1, .int (nI i)), (2, .int b), (3, .int (nI u))]), W p l e (db_rm 0 0) s m args below meth c H locs 0 0 Q (F0 m 4 ls []) := by
    intro q4
    induction q4 with
    | zero =>
      intro u b hq4 hu0 ebs
      exact absurd hq4 (by omega)
    | succ q4 ih4 =>
      intro u b hq4 hu0 ebs H locs hS ls hl
      refine lv_iload_n hx hb dX7_wanted_4 rfl (lv_at hl 3 rfl) ?_
      refine lv_aload_n hx hb dX7_wanted_5 rfl (lv_at hl 0 rfl) ?_
      refine db_get hx hb hts hown hK hS 0 0 (mm_k 0 rfl) rfl db_c7 24 (by decide) wd_465 rfl dX7_wanted_6 ?_
      rw [show X 0 0 24 = nI sz from hI.2.2.1]
      refine lv_icmp_ge (tgt := 83) hx hb dX7_wanted_9 (by decide) (fun c9 => ?_) (fun c9 => ?_)
      · have hu : u = sz := by
          rcases Nat.lt_or_ge u (sz) with q9 | q9
          · exact absurd c9 (nI_ge q9 hsz)
          · omega
        refine lv_iload_n hx hb dX7_wanted_83 rfl (lv_at hl 2 rfl) ?_
        exact hret _ _ _ _ _ _ hS (by rw [ebs, hu]; rfl) (rfl) dX7_wanted_84
      · have hu : u < sz := by
          rcases Nat.lt_or_ge u (sz) with q9 | q9
          · exact q9
          · exact absurd (nI_le q9 (by omega)) c9
        have hlk : db_in (X 26 0 u) (N 1) := hI.2.2.2.2 u hu
        refine lv_aload_n hx hb dX7_wanted_12 rfl (lv_at hl 0 rfl) ?_
        refine db_get hx hb hts hown hK hS 0 0 (mm_k 0 rfl) rfl db_c7 25 (by decide) wd_466 rfl dX7_wanted_13 ?_
        refine lv_iload_n hx hb dX7_wanted_16 rfl (lv_at hl 3 rfl) ?_
        refine db_ild hx hb hK hS 25 0 (mm_k 25 rfl) rfl u rfl (Nat.lt_of_lt_of_le (Nat.lt_of_lt_of_le hu hI.2.2.2.1) hN.2.2.2.1) (by decide) dX7_wanted_17 ?_
        refine lv_iload_n hx hb dX7_wanted_18 rfl (lv_at hl 1 rfl) ?_
        refine lv_icmp_ne (tgt := 77) hx hb dX7_wanted_19 (by decide) (fun c19 => ?_) (fun c19 => ?_)
        · refine lv_iinc (v := (nI (u + 1))) (lv' := [(3, .int (nI (u + 1))), (0, .ref (L 0 0)), (1, .int (nI i)), (2, .int b)]) hx hb dX7_wanted_77 hl (k := 3) rfl (nI_1 _) (by decide) rfl (fun ls hl => ?_)
          refine lv_goto (tgt := 4) hx hb dX7_wanted_80 (by decide) ?_
          exact ih4 (u + 1) b (by omega) hu (by rw [db_bs, ← ebs, if_neg (by simp [mm_wsel, c19])]) _ _ hS _ (lv_sub hl [1, 2, 3, 0] rfl)
        · refine lv_aload_n hx hb dX7_wanted_22 rfl (lv_at hl 0 rfl) ?_
          refine db_get hx hb hts hown hK hS 0 0 (mm_k 0 rfl) rfl db_c7 27 (by decide) wd_468 rfl dX7_wanted_23 ?_
          refine lv_iload_n hx hb dX7_wanted_26 rfl (lv_at hl 3 rfl) ?_
          refine db_ild hx hb hK hS 27 0 (mm_k 27 rfl) rfl u rfl (Nat.lt_of_lt_of_le (Nat.lt_of_lt_of_le hu hI.2.2.2.1) hN.2.2.2.1) (by decide) dX7_wanted_27 ?_
          refine lv_aload_n hx hb dX7_wanted_28 rfl (lv_at hl 0 rfl) ?_
          refine db_get hx hb hts hown hK hS 0 0 (mm_k 0 rfl) rfl db_c7 20 (by decide) wd_461 rfl dX7_wanted_29 ?_
          refine lv_iload_n hx hb dX7_wanted_32 rfl (lv_at hl 1 rfl) ?_
          refine db_ild hx hb hK hS 20 0 (mm_k 20 rfl) rfl i rfl (Nat.lt_of_lt_of_le hi hN.2.1) (by decide) dX7_wanted_33 ?_
          refine lv_icmp_ne (tgt := 77) hx hb dX7_wanted_34 (by decide) (fun c34 => ?_) (fun c34 => ?_)
          · refine lv_iinc (v := (nI (u + 1))) (lv' := [(3, .int (nI (u + 1))), (0, .ref (L 0 0)), (1, .int (nI i)), (2, .int b)]) hx hb dX7_wanted_77 hl (k := 3) rfl (nI_1 _) (by decide) rfl (fun ls hl => ?_)
            refine lv_goto (tgt := 4) hx hb dX7_wanted_80 (by decide) ?_
            exact ih4 (u + 1) b (by omega) hu (by rw [db_bs, ← ebs, if_neg (by simp [mm_wsel, c34])]) _ _ hS _ (lv_sub hl [1, 2, 3, 0] rfl)
          · refine lv_aload_n hx hb dX7_wanted_37 rfl (lv_at hl 0 rfl) ?_
            refine db_get hx hb hts hown hK hS 0 0 (mm_k 0 rfl) rfl db_c7 23 (by decide) wd_464 rfl dX7_wanted_38 ?_
            refine lv_aload_n hx hb dX7_wanted_41 rfl (lv_at hl 0 rfl) ?_
            refine db_get hx hb hts hown hK hS 0 0 (mm_k 0 rfl) rfl db_c7 26 (by decide) wd_467 rfl dX7_wanted_42 ?_
            refine lv_iload_n hx hb dX7_wanted_45 rfl (lv_at hl 3 rfl) ?_
            refine db_ild hx hb hK hS 26 0 (mm_k 26 rfl) rfl u rfl (Nat.lt_of_lt_of_le (Nat.lt_of_lt_of_le hu hI.2.2.2.1) hN.2.2.2.1) (by decide) dX7_wanted_46 ?_
            refine db_ild hx hb hK hS 23 0 (mm_k 23 rfl) rfl ((X 26 0 u).toNatClampNeg) (hlk.eq hn1) (Nat.lt_of_lt_of_le (hlk.lt hn1) hN.2.2.1) (by decide) dX7_wanted_47 ?_
            refine lv_iload_n hx hb dX7_wanted_48 rfl (lv_at hl 1 rfl) ?_
            refine lv_icmp_ne (tgt := 55) hx hb dX7_wanted_49 (by decide) (fun c49 => ?_) (fun c49 => ?_)
            · refine lv_iload_n hx hb dX7_wanted_55 rfl (lv_at hl 2 rfl) ?_
              refine lv_iconst (v := -1) hx hb dX7_wanted_56 (by decide) ?_
              refine lv_icmp_eq (tgt := 75) hx hb dX7_wanted_57 (by decide) (fun c57 => ?_) (fun c57 => ?_)
              · refine lv_iload_n hx hb dX7_wanted_75 rfl (lv_at hl 3 rfl) ?_
                refine lv_istore_n (lv' := [(2, .int (nI u)), (0, .ref (L 0 0)), (1, .int (nI i)), (3, .int (nI u))]) hx hb dX7_wanted_76 rfl hl (by decide) rfl (fun ls hl => ?_)
                refine lv_iinc (v := (nI (u + 1))) (lv' := [(3, .int (nI (u + 1))), (2, .int (nI u)), (0, .ref (L 0 0)), (1, .int (nI i))]) hx hb dX7_wanted_77 hl (k := 3) rfl (nI_1 _) (by decide) rfl (fun ls hl => ?_)
                refine lv_goto (tgt := 4) hx hb dX7_wanted_80 (by decide) ?_
                exact ih4 (u + 1) (nI u) (by omega) hu (by rw [db_bs, ← ebs, if_pos (by simp [mm_wsel, c19, c34, c49]), if_pos c57]) _ _ hS _ (lv_sub hl [2, 3, 1, 0] rfl)
              · have hbin : db_in b (N 2) := by
                  rcases db_bs_in (sel := mm_wsel X i) (wor := mm_wwor X) u with q9 | ⟨w, q1, q2, -⟩
                  · exact absurd (ebs.trans q9) c57
                  · exact ⟨w, by have := hI.2.2.2.1; omega, ebs.trans q2⟩
                refine lv_aload_n hx hb dX7_wanted_60 rfl (lv_at hl 0 rfl) ?_
                refine db_get hx hb hts hown hK hS 0 0 (mm_k 0 rfl) rfl db_c7 28 (by decide) wd_469 rfl dX7_wanted_61 ?_
                refine lv_iload_n hx hb dX7_wanted_64 rfl (lv_at hl 3 rfl) ?_
                refine db_ild hx hb hK hS 28 0 (mm_k 28 rfl) rfl u rfl (Nat.lt_of_lt_of_le (Nat.lt_of_lt_of_le hu hI.2.2.2.1) hN.2.2.2.1) (by decide) dX7_wanted_65 ?_
                refine lv_aload_n hx hb dX7_wanted_66 rfl (lv_at hl 0 rfl) ?_
                refine db_get hx hb hts hown hK hS 0 0 (mm_k 0 rfl) rfl db_c7 28 (by decide) wd_469 rfl dX7_wanted_67 ?_
                refine lv_iload_n hx hb dX7_wanted_70 rfl (lv_at hl 2 rfl) ?_
                refine db_ild hx hb hK hS 28 0 (mm_k 28 rfl) rfl b.toNatClampNeg (hbin.eq hn2) (Nat.lt_of_lt_of_le (hbin.lt hn2) hN.2.2.2.1) (by decide) dX7_wanted_71 ?_
                refine lv_icmp_le (tgt := 77) hx hb dX7_wanted_72 (by decide) (fun c72 => ?_) (fun c72 => ?_)
                · refine lv_iinc (v := (nI (u + 1))) (lv' := [(3, .int (nI (u + 1))), (0, .ref (L 0 0)), (1, .int (nI i)), (2, .int b)]) hx hb dX7_wanted_77 hl (k := 3) rfl (nI_1 _) (by decide) rfl (fun ls hl => ?_)
                  refine lv_goto (tgt := 4) hx hb dX7_wanted_80 (by decide) ?_
                  exact ih4 (u + 1) b (by omega) hu (by rw [db_bs, ← ebs, if_pos (by simp [mm_wsel, c19, c34, c49]), if_neg c57, if_pos (by simp only [mm_wwor]; exact decide_eq_true c72)]) _ _ hS _ (lv_sub hl [1, 2, 3, 0] rfl)
                · refine lv_iload_n hx hb dX7_wanted_75 rfl (lv_at hl 3 rfl) ?_
                  refine lv_istore_n (lv' := [(2, .int (nI u)), (0, .ref (L 0 0)), (1, .int (nI i)), (3, .int (nI u))]) hx hb dX7_wanted_76 rfl hl (by decide) rfl (fun ls hl => ?_)
                  refine lv_iinc (v := (nI (u + 1))) (lv' := [(3, .int (nI (u + 1))), (2, .int (nI u)), (0, .ref (L 0 0)), (1, .int (nI i))]) hx hb dX7_wanted_77 hl (k := 3) rfl (nI_1 _) (by decide) rfl (fun ls hl => ?_)
                  refine lv_goto (tgt := 4) hx hb dX7_wanted_80 (by decide) ?_
                  exact ih4 (u + 1) (nI u) (by omega) hu (by rw [db_bs, ← ebs, if_pos (by simp [mm_wsel, c19, c34, c49]), if_neg c57, if_neg (by simp only [mm_wwor]; intro q9; exact c72 (of_decide_eq_true q9))]) _ _ hS _ (lv_sub hl [2, 3, 1, 0] rfl)
            · refine lv_goto (tgt := 77) hx hb dX7_wanted_52 (by decide) ?_
              refine lv_iinc (v := (nI (u + 1))) (lv' := [(3, .int (nI (u + 1))), (0, .ref (L 0 0)), (1, .int (nI i)), (2, .int b)]) hx hb dX7_wanted_77 hl (k := 3) rfl (nI_1 _) (by decide) rfl (fun ls hl => ?_)
              refine lv_goto (tgt := 4) hx hb dX7_wanted_80 (by decide) ?_
              exact ih4 (u + 1) b (by omega) hu (by rw [db_bs, ← ebs, if_neg (by simp [mm_wsel, c49])]) _ _ hS _ (lv_sub hl [1, 2, 3, 0] rfl)
  exact K4 _ 0 (-1) (Nat.le_refl _) (Nat.zero_le _) rfl _ _ hS _ (lv_sub hl [2, 3, 1, 0] rfl)

theorem c_X7_wanted' (l : Launch) (Γ : db_G) (N : Nat → Nat) (L : Nat → Nat → Nat) (X : db_X) (hN : bb_N N) (t : Int32) (sz : Nat) (hI : mm_I N sz X) (ht : db_in t (N 0)) : db_C l Γ yX7_wanted cX7_wanted 4 (some .int) (db_rm 0 0) [.ref (L 0 0), .int t] L mm_ok (mm_cel Γ N L) X (some (.int (mm_want X sz t.toNatClampNeg))) X := by
  have hn0 : N 0 < 2 ^ 31 := by have := hN.2.1; omega
  have h := c_X7_wanted l Γ N L X hN sz t.toNatClampNeg hI (ht.lt hn0)
  rw [← ht.eq hn0] at h
  exact h

set_option maxHeartbeats 4000000 in
set_option maxRecDepth 100000 in
theorem c_X7_ending (l : Launch) (Γ : db_G) (N : Nat → Nat) (L : Nat → Nat → Nat) (X : db_X) (hN : bb_N N) (sz i : Nat) (hI : mm_I N sz X) (hi : i < N 0) : db_C l Γ yX7_ending cX7_ending 4 (some .int) (db_rm 0 0) [.ref (L 0 0), .int (nI i)] L mm_ok (mm_cel Γ N L) X (some (.int (mm_end X sz i))) X := by
  have hn0 : N 0 < 2 ^ 31 := by have := hN.2.1; omega
  have hn1 : N 1 < 2 ^ 31 := by have := hN.2.2.1; omega
  have hn2 : N 2 < 2 ^ 31 := by have := hN.2.2.2.1; omega
  have hn3 : N 3 < 2 ^ 31 := by have := hN.2.2.2.2; omega
  refine db_introI (by decide +kernel) (Nat.le_of_ble_eq_true rfl) ?_
  intro p e s m args below meth c A Q ls hC hS hl hret
  have hC : db_Cx p s m args meth c Γ RX7 cX7_ending 4 (some .int) := hC
  obtain ⟨hx, hb, hml, hr, hlocks, hown, hts, hK⟩ := id hC
  have hl : lv_has ls 4 [(0, .ref (L 0 0)), (1, .int (nI i))] := hl
  have hsz : sz < 2 ^ 31 := by have := hI.2.2.2.1; omega
  refine lv_iconst (v := -1) hx hb dX7_ending_0 (by decide) ?_
  refine lv_istore_n (lv' := [(2, .int (-1)), (0, .ref (L 0 0)), (1, .int (nI i))]) hx hb dX7_ending_1 rfl hl (by decide) rfl (fun ls hl => ?_)
  refine lv_iconst (v := 0) hx hb dX7_ending_2 (by decide) ?_
  refine lv_istore_n (lv' := [(3, .int 0), (2, .int (-1)), (0, .ref (L 0 0)), (1, .int (nI i))]) hx hb dX7_ending_3 rfl hl (by decide) rfl (fun ls hl => ?_)
  have K4 : ∀ (q : Nat) (u : Nat) (b : Int32) (hq : sz + 1 - u ≤ q) (hu0 : u ≤ sz) (ebs : b = db_bs (mm_esel X i) (mm_ewor X) u) (H : Heap) (locs : List Loc) (hS : db_S Γ A s.heap L mm_ok (mm_cel Γ N L) X H locs) (ls : Array Slot) (hl : lv_has ls 4 [(0, .ref (L 0 0)), (1, .int (nI i)), (2, .int b), (3, .int (nI u))]), W p l e (db_rm 0 0) s m args below meth c H locs 0 0 Q (F0 m 4 ls []) := by
    intro q4
    induction q4 with
    | zero =>
      intro u b hq4 hu0 ebs
      exact absurd hq4 (by omega)
    | succ q4 ih4 =>
      intro u b hq4 hu0 ebs H locs hS ls hl
      refine lv_iload_n hx hb dX7_ending_4 rfl (lv_at hl 3 rfl) ?_
      refine lv_aload_n hx hb dX7_ending_5 rfl (lv_at hl 0 rfl) ?_
      refine db_get hx hb hts hown hK hS 0 0 (mm_k 0 rfl) rfl db_c7 24 (by decide) wd_465 rfl dX7_ending_6 ?_
      rw [show X 0 0 24 = nI sz from hI.2.2.1]
      refine lv_icmp_ge (tgt := 90) hx hb dX7_ending_9 (by decide) (fun c9 => ?_) (fun c9 => ?_)
      · have hu : u = sz := by
          rcases Nat.lt_or_ge u (sz) with q9 | q9
          · exact absurd c9 (nI_ge q9 hsz)
          · omega
        refine lv_iload_n hx hb dX7_ending_90 rfl (lv_at hl 2 rfl) ?_
        exact hret _ _ _ _ _ _ hS (by rw [ebs, hu]; rfl) (rfl) dX7_ending_91
      · have hu : u < sz := by
          rcases Nat.lt_or_ge u (sz) with q9 | q9
          · exact q9
          · exact absurd (nI_le q9 (by omega)) c9
        have hlk : db_in (X 26 0 u) (N 1) := hI.2.2.2.2 u hu
        refine lv_aload_n hx hb dX7_ending_12 rfl (lv_at hl 0 rfl) ?_
        refine db_get hx hb hts hown hK hS 0 0 (mm_k 0 rfl) rfl db_c7 25 (by decide) wd_466 rfl dX7_ending_13 ?_
        refine lv_iload_n hx hb dX7_ending_16 rfl (lv_at hl 3 rfl) ?_
        refine db_ild hx hb hK hS 25 0 (mm_k 25 rfl) rfl u rfl (Nat.lt_of_lt_of_le (Nat.lt_of_lt_of_le hu hI.2.2.2.1) hN.2.2.2.1) (by decide) dX7_ending_17 ?_
        refine lv_iload_n hx hb dX7_ending_18 rfl (lv_at hl 1 rfl) ?_
        refine lv_icmp_ne (tgt := 84) hx hb dX7_ending_19 (by decide) (fun c19 => ?_) (fun c19 => ?_)
        · refine lv_iinc (v := (nI (u + 1))) (lv' := [(3, .int (nI (u + 1))), (0, .ref (L 0 0)), (1, .int (nI i)), (2, .int b)]) hx hb dX7_ending_84 hl (k := 3) rfl (nI_1 _) (by decide) rfl (fun ls hl => ?_)
          refine lv_goto (tgt := 4) hx hb dX7_ending_87 (by decide) ?_
          exact ih4 (u + 1) b (by omega) hu (by rw [db_bs, ← ebs, if_neg (by simp [mm_esel, c19])]) _ _ hS _ (lv_sub hl [1, 2, 3, 0] rfl)
        · refine lv_aload_n hx hb dX7_ending_22 rfl (lv_at hl 0 rfl) ?_
          refine db_get hx hb hts hown hK hS 0 0 (mm_k 0 rfl) rfl db_c7 27 (by decide) wd_468 rfl dX7_ending_23 ?_
          refine lv_iload_n hx hb dX7_ending_26 rfl (lv_at hl 3 rfl) ?_
          refine db_ild hx hb hK hS 27 0 (mm_k 27 rfl) rfl u rfl (Nat.lt_of_lt_of_le (Nat.lt_of_lt_of_le hu hI.2.2.2.1) hN.2.2.2.1) (by decide) dX7_ending_27 ?_
          refine lv_aload_n hx hb dX7_ending_28 rfl (lv_at hl 0 rfl) ?_
          refine db_get hx hb hts hown hK hS 0 0 (mm_k 0 rfl) rfl db_c7 28 (by decide) wd_469 rfl dX7_ending_29 ?_
          refine lv_iload_n hx hb dX7_ending_32 rfl (lv_at hl 3 rfl) ?_
          refine db_ild hx hb hK hS 28 0 (mm_k 28 rfl) rfl u rfl (Nat.lt_of_lt_of_le (Nat.lt_of_lt_of_le hu hI.2.2.2.1) hN.2.2.2.1) (by decide) dX7_ending_33 ?_
          refine lv_iadd hx hb dX7_ending_34 ?_
          refine lv_aload_n hx hb dX7_ending_35 rfl (lv_at hl 0 rfl) ?_
          refine db_get hx hb hts hown hK hS 0 0 (mm_k 0 rfl) rfl db_c7 20 (by decide) wd_461 rfl dX7_ending_36 ?_
          refine lv_iload_n hx hb dX7_ending_39 rfl (lv_at hl 1 rfl) ?_
          refine db_ild hx hb hK hS 20 0 (mm_k 20 rfl) rfl i rfl (Nat.lt_of_lt_of_le hi hN.2.1) (by decide) dX7_ending_40 ?_
          refine lv_icmp_ne (tgt := 84) hx hb dX7_ending_41 (by decide) (fun c41 => ?_) (fun c41 => ?_)
          · refine lv_iinc (v := (nI (u + 1))) (lv' := [(3, .int (nI (u + 1))), (0, .ref (L 0 0)), (1, .int (nI i)), (2, .int b)]) hx hb dX7_ending_84 hl (k := 3) rfl (nI_1 _) (by decide) rfl (fun ls hl => ?_)
            refine lv_goto (tgt := 4) hx hb dX7_ending_87 (by decide) ?_
            exact ih4 (u + 1) b (by omega) hu (by rw [db_bs, ← ebs, if_neg (by simp [mm_esel, c41])]) _ _ hS _ (lv_sub hl [1, 2, 3, 0] rfl)
          · refine lv_aload_n hx hb dX7_ending_44 rfl (lv_at hl 0 rfl) ?_
            refine db_get hx hb hts hown hK hS 0 0 (mm_k 0 rfl) rfl db_c7 23 (by decide) wd_464 rfl dX7_ending_45 ?_
            refine lv_aload_n hx hb dX7_ending_48 rfl (lv_at hl 0 rfl) ?_
            refine db_get hx hb hts hown hK hS 0 0 (mm_k 0 rfl) rfl db_c7 26 (by decide) wd_467 rfl dX7_ending_49 ?_
            refine lv_iload_n hx hb dX7_ending_52 rfl (lv_at hl 3 rfl) ?_
            refine db_ild hx hb hK hS 26 0 (mm_k 26 rfl) rfl u rfl (Nat.lt_of_lt_of_le (Nat.lt_of_lt_of_le hu hI.2.2.2.1) hN.2.2.2.1) (by decide) dX7_ending_53 ?_
            refine db_ild hx hb hK hS 23 0 (mm_k 23 rfl) rfl ((X 26 0 u).toNatClampNeg) (hlk.eq hn1) (Nat.lt_of_lt_of_le (hlk.lt hn1) hN.2.2.1) (by decide) dX7_ending_54 ?_
            refine lv_iload_n hx hb dX7_ending_55 rfl (lv_at hl 1 rfl) ?_
            refine lv_icmp_eq (tgt := 62) hx hb dX7_ending_56 (by decide) (fun c56 => ?_) (fun c56 => ?_)
            · refine lv_iload_n hx hb dX7_ending_62 rfl (lv_at hl 2 rfl) ?_
              refine lv_iconst (v := -1) hx hb dX7_ending_63 (by decide) ?_
              refine lv_icmp_eq (tgt := 82) hx hb dX7_ending_64 (by decide) (fun c64 => ?_) (fun c64 => ?_)
              · refine lv_iload_n hx hb dX7_ending_82 rfl (lv_at hl 3 rfl) ?_
                refine lv_istore_n (lv' := [(2, .int (nI u)), (0, .ref (L 0 0)), (1, .int (nI i)), (3, .int (nI u))]) hx hb dX7_ending_83 rfl hl (by decide) rfl (fun ls hl => ?_)
                refine lv_iinc (v := (nI (u + 1))) (lv' := [(3, .int (nI (u + 1))), (2, .int (nI u)), (0, .ref (L 0 0)), (1, .int (nI i))]) hx hb dX7_ending_84 hl (k := 3) rfl (nI_1 _) (by decide) rfl (fun ls hl => ?_)
                refine lv_goto (tgt := 4) hx hb dX7_ending_87 (by decide) ?_
                exact ih4 (u + 1) (nI u) (by omega) hu (by rw [db_bs, ← ebs, if_pos (by simp [mm_esel, c19, c41, c56]), if_pos c64]) _ _ hS _ (lv_sub hl [2, 3, 1, 0] rfl)
              · have hbin : db_in b (N 2) := by
                  rcases db_bs_in (sel := mm_esel X i) (wor := mm_ewor X) u with q9 | ⟨w, q1, q2, -⟩
                  · exact absurd (ebs.trans q9) c64
                  · exact ⟨w, by have := hI.2.2.2.1; omega, ebs.trans q2⟩
                refine lv_aload_n hx hb dX7_ending_67 rfl (lv_at hl 0 rfl) ?_
                refine db_get hx hb hts hown hK hS 0 0 (mm_k 0 rfl) rfl db_c7 27 (by decide) wd_468 rfl dX7_ending_68 ?_
                refine lv_iload_n hx hb dX7_ending_71 rfl (lv_at hl 3 rfl) ?_
                refine db_ild hx hb hK hS 27 0 (mm_k 27 rfl) rfl u rfl (Nat.lt_of_lt_of_le (Nat.lt_of_lt_of_le hu hI.2.2.2.1) hN.2.2.2.1) (by decide) dX7_ending_72 ?_
                refine lv_aload_n hx hb dX7_ending_73 rfl (lv_at hl 0 rfl) ?_
                refine db_get hx hb hts hown hK hS 0 0 (mm_k 0 rfl) rfl db_c7 27 (by decide) wd_468 rfl dX7_ending_74 ?_
                refine lv_iload_n hx hb dX7_ending_77 rfl (lv_at hl 2 rfl) ?_
                refine db_ild hx hb hK hS 27 0 (mm_k 27 rfl) rfl b.toNatClampNeg (hbin.eq hn2) (Nat.lt_of_lt_of_le (hbin.lt hn2) hN.2.2.2.1) (by decide) dX7_ending_78 ?_
                refine lv_icmp_lt (tgt := 84) hx hb dX7_ending_79 (by decide) (fun c79 => ?_) (fun c79 => ?_)
                · refine lv_iinc (v := (nI (u + 1))) (lv' := [(3, .int (nI (u + 1))), (0, .ref (L 0 0)), (1, .int (nI i)), (2, .int b)]) hx hb dX7_ending_84 hl (k := 3) rfl (nI_1 _) (by decide) rfl (fun ls hl => ?_)
                  refine lv_goto (tgt := 4) hx hb dX7_ending_87 (by decide) ?_
                  exact ih4 (u + 1) b (by omega) hu (by rw [db_bs, ← ebs, if_pos (by simp [mm_esel, c19, c41, c56]), if_neg c64, if_pos (by simp only [mm_ewor]; exact decide_eq_true c79)]) _ _ hS _ (lv_sub hl [1, 2, 3, 0] rfl)
                · refine lv_iload_n hx hb dX7_ending_82 rfl (lv_at hl 3 rfl) ?_
                  refine lv_istore_n (lv' := [(2, .int (nI u)), (0, .ref (L 0 0)), (1, .int (nI i)), (3, .int (nI u))]) hx hb dX7_ending_83 rfl hl (by decide) rfl (fun ls hl => ?_)
                  refine lv_iinc (v := (nI (u + 1))) (lv' := [(3, .int (nI (u + 1))), (2, .int (nI u)), (0, .ref (L 0 0)), (1, .int (nI i))]) hx hb dX7_ending_84 hl (k := 3) rfl (nI_1 _) (by decide) rfl (fun ls hl => ?_)
                  refine lv_goto (tgt := 4) hx hb dX7_ending_87 (by decide) ?_
                  exact ih4 (u + 1) (nI u) (by omega) hu (by rw [db_bs, ← ebs, if_pos (by simp [mm_esel, c19, c41, c56]), if_neg c64, if_neg (by simp only [mm_ewor]; intro q9; exact c79 (of_decide_eq_true q9))]) _ _ hS _ (lv_sub hl [2, 3, 1, 0] rfl)
            · refine lv_goto (tgt := 84) hx hb dX7_ending_59 (by decide) ?_
              refine lv_iinc (v := (nI (u + 1))) (lv' := [(3, .int (nI (u + 1))), (0, .ref (L 0 0)), (1, .int (nI i)), (2, .int b)]) hx hb dX7_ending_84 hl (k := 3) rfl (nI_1 _) (by decide) rfl (fun ls hl => ?_)
              refine lv_goto (tgt := 4) hx hb dX7_ending_87 (by decide) ?_
              exact ih4 (u + 1) b (by omega) hu (by rw [db_bs, ← ebs, if_neg (by simp [mm_esel, c56])]) _ _ hS _ (lv_sub hl [1, 2, 3, 0] rfl)
  exact K4 _ 0 (-1) (Nat.le_refl _) (Nat.zero_le _) rfl _ _ hS _ (lv_sub hl [2, 3, 1, 0] rfl)

theorem c_X7_ending' (l : Launch) (Γ : db_G) (N : Nat → Nat) (L : Nat → Nat → Nat) (X : db_X) (hN : bb_N N) (t : Int32) (sz : Nat) (hI : mm_I N sz X) (ht : db_in t (N 0)) : db_C l Γ yX7_ending cX7_ending 4 (some .int) (db_rm 0 0) [.ref (L 0 0), .int t] L mm_ok (mm_cel Γ N L) X (some (.int (mm_end X sz t.toNatClampNeg))) X := by
  have hn0 : N 0 < 2 ^ 31 := by have := hN.2.1; omega
  have h := c_X7_ending l Γ N L X hN sz t.toNatClampNeg hI (ht.lt hn0)
  rw [← ht.eq hn0] at h
  exact h

set_option maxHeartbeats 4000000 in
set_option maxRecDepth 100000 in
theorem c_X7_taken (l : Launch) (Γ : db_G) (N : Nat → Nat) (L : Nat → Nat → Nat) (X : db_X) (hN : bb_N N) (sz : Nat) (hI : mm_I N sz X) : db_C l Γ yX7_taken cX7_taken 3 (some .int) (db_rm 4 88) [.ref (L 0 0)] L mm_ok (mm_cel Γ N L) X (some (.int ((mm_tk N X sz).1))) ((mm_tk N X sz).2) := by
  have hn0 : N 0 < 2 ^ 31 := by have := hN.2.1; omega
  have hn1 : N 1 < 2 ^ 31 := by have := hN.2.2.1; omega
  have hn2 : N 2 < 2 ^ 31 := by have := hN.2.2.2.1; omega
  have hn3 : N 3 < 2 ^ 31 := by have := hN.2.2.2.2; omega
  refine db_introI (by decide +kernel) (Nat.le_of_ble_eq_true rfl) ?_
  intro p e s m args below meth c A Q ls hC hS hl hret
  have hC : db_Cx p s m args meth c Γ RX7 cX7_taken 3 (some .int) := hC
  obtain ⟨hx, hb, hml, hr, hlocks, hown, hts, hK⟩ := id hC
  have hl : lv_has ls 3 [(0, .ref (L 0 0))] := hl
  refine lv_aload_n hx hb dX7_taken_0 rfl (lv_at hl 0 rfl) ?_
  refine lv_iconst (v := -1) hx hb dX7_taken_1 (by decide) ?_
  refine db_cV (As := [.int (-1)]) (rest := []) (st1 := [.int (mm_ahead N (mm_rk N X) (-1))]) hC hS 0 0 (mm_k 0 rfl) rfl db_c7 (c_X7_ahead l Γ N L X hN (-1) sz hI) (cw_X7_ahead (Nat.le_of_ble_eq_true rfl) (Nat.le_of_ble_eq_true rfl)) wd_583 wd_585 ws_39 rfl hl.1 rfl (Nat.le_of_ble_eq_true rfl) dX7_taken_2 ⟨Nat.le_of_ble_eq_true rfl, Nat.le_of_ble_eq_true rfl⟩ rfl (fun H locs hS => ?_)
  obtain ⟨X1, eX1⟩ : ∃ z, z = mm_rk N X := ⟨_, rfl⟩
  rw [← eX1] at hS
  rw [show mm_ahead N (mm_rk N X) (-1) = mm_ahead N X1 (-1) by rw [eX1]]
  refine lv_istore_n (lv' := [(1, .int (mm_ahead N X1 (-1))), (0, .ref (L 0 0))]) hx hb dX7_taken_5 rfl hl (by decide) rfl (fun ls hl => ?_)
  have K6 : ∀ (q : Nat) (g : Nat) (t : Int32) (Xa : db_X) (hq : g + 1 ≤ q) (hIa : mm_I N sz Xa) (hta : t = -1 ∨ (db_in t (N 0) ∧ ¬ mm_isP N Xa (nI t.toNatClampNeg) = 0 ∧ Xa 21 0 t.toNatClampNeg = -1)) (hme : mm_mea N Xa < g + 1) (hrem : mm_tk N X sz = mm_tkF N sz (g + 1) t Xa) (H : Heap) (locs : List Loc) (hS : db_S Γ A s.heap L mm_ok (mm_cel Γ N L) Xa H locs) (ls : Array Slot) (hl : lv_has ls 3 [(0, .ref (L 0 0)), (1, .int t)]), W p l e (db_rm 4 88) s m args below meth c H locs 0 0 Q (F0 m 6 ls []) := by
    intro q6
    induction q6 with
    | zero =>
      intro g t Xa hq6 hIa hta hme hrem
      exact absurd hq6 (by omega)
    | succ q6 ih6 =>
      intro g t Xa hq6 hIa hta hme hrem H locs hS ls hl
      refine lv_iload_n hx hb dX7_taken_6 rfl (lv_at hl 1 rfl) ?_
      refine lv_iconst (v := -1) hx hb dX7_taken_7 (by decide) ?_
      refine lv_icmp_eq (tgt := 75) hx hb dX7_taken_8 (by decide) (fun c8 => ?_) (fun c8 => ?_)
      · refine lv_iconst (v := -1) hx hb dX7_taken_75 (by decide) ?_
        exact hret _ _ _ _ _ _ hS (by rw [hrem, mm_tkF, if_pos c8]) (by rw [hrem, mm_tkF, if_pos c8]) dX7_taken_76
      · obtain ⟨htin, htr⟩ := hta.resolve_left c8
        refine lv_aload_n hx hb dX7_taken_11 rfl (lv_at hl 0 rfl) ?_
        refine lv_iload_n hx hb dX7_taken_12 rfl (lv_at hl 1 rfl) ?_
        refine db_cV (As := [.int t]) (rest := []) (st1 := [.int (mm_want Xa sz t.toNatClampNeg)]) hC hS 0 0 (mm_k 0 rfl) rfl db_c7 (c_X7_wanted' l Γ N L Xa hN t sz hIa htin) (cw_X7_wanted (Nat.le_of_ble_eq_true rfl) (Nat.le_of_ble_eq_true rfl)) wd_619 wd_621 ws_46 rfl hl.1 rfl (Nat.le_of_ble_eq_true rfl) dX7_taken_13 ⟨Nat.le_of_ble_eq_true rfl, Nat.le_of_ble_eq_true rfl⟩ rfl (fun H locs hS => ?_)
        refine lv_istore_n (lv' := [(2, .int (mm_want Xa sz t.toNatClampNeg)), (0, .ref (L 0 0)), (1, .int t)]) hx hb dX7_taken_16 rfl hl (by decide) rfl (fun ls hl => ?_)
        refine lv_iload_n hx hb dX7_taken_17 rfl (lv_at hl 0 rfl) ?_
        refine lv_iconst (v := -1) hx hb dX7_taken_18 (by decide) ?_
        refine lv_icmp_ne (tgt := 24) hx hb dX7_taken_19 (by decide) (fun c19 => ?_) (fun c19 => ?_)
        · obtain ⟨w, hw, ew, -⟩ := mm_want_in c19
          have hwin : db_in (mm_want Xa sz t.toNatClampNeg) (N 2) := ⟨w, by have := hIa.2.2.2.1; omega, ew⟩
          have hlk : db_in (Xa 26 0 (mm_want Xa sz t.toNatClampNeg).toNatClampNeg) (N 1) := by rw [ew, nI_clamp (by have := hIa.2.2.2.1; omega)]; exact hIa.2.2.2.2 w hw
          refine lv_aload_n hx hb dX7_taken_24 rfl (lv_at hl 1 rfl) ?_
          refine db_get hx hb hts hown hK hS 0 0 (mm_k 0 rfl) rfl db_c7 23 (by decide) wd_464 rfl dX7_taken_25 ?_
          refine lv_aload_n hx hb dX7_taken_28 rfl (lv_at hl 1 rfl) ?_
          refine db_get hx hb hts hown hK hS 0 0 (mm_k 0 rfl) rfl db_c7 26 (by decide) wd_467 rfl dX7_taken_29 ?_
          refine lv_iload_n hx hb dX7_taken_32 rfl (lv_at hl 0 rfl) ?_
          refine db_ild hx hb hK hS 26 0 (mm_k 26 rfl) rfl ((mm_want Xa sz t.toNatClampNeg).toNatClampNeg) (hwin.eq hn2) (Nat.lt_of_lt_of_le (hwin.lt hn2) hN.2.2.2.1) (by decide) dX7_taken_33 ?_
          refine db_ild hx hb hK hS 23 0 (mm_k 23 rfl) rfl ((Xa 26 0 ((mm_want Xa sz t.toNatClampNeg).toNatClampNeg)).toNatClampNeg) (hlk.eq hn1) (Nat.lt_of_lt_of_le (hlk.lt hn1) hN.2.2.1) (by decide) dX7_taken_34 ?_
          refine lv_iconst (v := -1) hx hb dX7_taken_35 (by decide) ?_
          refine lv_icmp_ne (tgt := 54) hx hb dX7_taken_36 (by decide) (fun c36 => ?_) (fun c36 => ?_)
          · refine lv_aload_n hx hb dX7_taken_54 rfl (lv_at hl 1 rfl) ?_
            refine db_get hx hb hts hown hK hS 0 0 (mm_k 0 rfl) rfl db_c7 21 (by decide) wd_462 rfl dX7_taken_55 ?_
            refine lv_iload_n hx hb dX7_taken_58 rfl (lv_at hl 2 rfl) ?_
            refine lv_aload_n hx hb dX7_taken_59 rfl (lv_at hl 1 rfl) ?_
            refine db_get hx hb hts hown hK hS 0 0 (mm_k 0 rfl) rfl db_c7 26 (by decide) wd_467 rfl dX7_taken_60 ?_
            refine lv_iload_n hx hb dX7_taken_63 rfl (lv_at hl 0 rfl) ?_
            refine db_ild hx hb hK hS 26 0 (mm_k 26 rfl) rfl ((mm_want Xa sz t.toNatClampNeg).toNatClampNeg) (hwin.eq hn2) (Nat.lt_of_lt_of_le (hwin.lt hn2) hN.2.2.2.1) (by decide) dX7_taken_64 ?_
            refine db_ist hx hb hK hS 21 0 (mm_k 21 rfl) (fun _ => rfl) t.toNatClampNeg (htin.eq hn0) (Nat.lt_of_lt_of_le (htin.lt hn0) hN.2.1) (by decide) dX7_taken_65 (fun H locs hS => ?_)
            obtain ⟨X2, eX2⟩ : ∃ z, z = db_up Xa 21 0 t.toNatClampNeg (Xa 26 0 ((mm_want Xa sz t.toNatClampNeg).toNatClampNeg)) := ⟨_, rfl⟩
            rw [← eX2] at hS
            have hI2 : mm_I N sz X2 := by rw [eX2]; exact hIa.up21 (Or.inr (hlk.mono hN.2.2.1))
            refine lv_aload_n hx hb dX7_taken_66 rfl (lv_at hl 1 rfl) ?_
            refine lv_iconst (v := -1) hx hb dX7_taken_67 (by decide) ?_
            refine db_cV (As := [.int (-1)]) (rest := []) (st1 := [.int (mm_ahead N (mm_rk N X2) (-1))]) hC hS 0 0 (mm_k 0 rfl) rfl db_c7 (c_X7_ahead l Γ N L X2 hN (-1) sz hI2) (cw_X7_ahead (Nat.le_of_ble_eq_true rfl) (Nat.le_of_ble_eq_true rfl)) wd_583 wd_585 ws_39 rfl hl.1 rfl (Nat.le_of_ble_eq_true rfl) dX7_taken_68 ⟨Nat.le_of_ble_eq_true rfl, Nat.le_of_ble_eq_true rfl⟩ rfl (fun H locs hS => ?_)
            obtain ⟨X3, eX3⟩ : ∃ z, z = mm_rk N X2 := ⟨_, rfl⟩
            rw [← eX3] at hS
            rw [show mm_ahead N (mm_rk N X2) (-1) = mm_ahead N X3 (-1) by rw [eX3]]
            refine lv_istore_n (lv' := [(1, .int (mm_ahead N X3 (-1))), (2, .int (mm_want Xa sz t.toNatClampNeg)), (0, .ref (L 0 0))]) hx hb dX7_taken_71 rfl hl (by decide) rfl (fun ls hl => ?_)
            refine lv_goto (tgt := 6) hx hb dX7_taken_72 (by decide) ?_
            have hI1 : mm_I N sz X3 := by rw [eX3]; exact hI2.rk
            have hta1 : mm_ahead N X3 (-1) = -1 ∨ (db_in (mm_ahead N X3 (-1)) (N 0) ∧ ¬ mm_isP N X3 (nI (mm_ahead N X3 (-1)).toNatClampNeg) = 0 ∧ X3 21 0 (mm_ahead N X3 (-1)).toNatClampNeg = -1) := by
              by_cases z9 : mm_ahead N X3 (-1) = -1
              · exact Or.inl z9
              · exact Or.inr ⟨mm_ahead_in z9, mm_ahead_ready hn0 z9⟩
            have h1 := mm_mea21 (N := N) (Y := Xa) (v := Xa 26 0 (mm_want Xa sz t.toNatClampNeg).toNatClampNeg) (htin.lt hn0) htr.1 htr.2 (hlk.ne1 hn1)
            obtain ⟨g1, rfl⟩ : ∃ g1, g = g1 + 1 := ⟨g - 1, by omega⟩
            have hme1 : mm_mea N X3 < g1 + 1 := by rw [eX3, mm_rk_s.mea, eX2]; omega
            have hrem1 : mm_tk N X sz = mm_tkF N sz (g1 + 1) (mm_ahead N X3 (-1)) X3 := by rw [hrem, mm_tkF, if_neg c8, if_neg c19, if_neg c36, eX3, eX2]
            exact ih6 g1 (mm_ahead N X3 (-1)) X3 (by omega) hI1 hta1 hme1 hrem1 _ _ hS _ (lv_sub hl [2, 0] rfl)
          · refine lv_aload_n hx hb dX7_taken_39 rfl (lv_at hl 1 rfl) ?_
            refine db_get hx hb hts hown hK hS 0 0 (mm_k 0 rfl) rfl db_c7 23 (by decide) wd_464 rfl dX7_taken_40 ?_
            refine lv_aload_n hx hb dX7_taken_43 rfl (lv_at hl 1 rfl) ?_
            refine db_get hx hb hts hown hK hS 0 0 (mm_k 0 rfl) rfl db_c7 26 (by decide) wd_467 rfl dX7_taken_44 ?_
            refine lv_iload_n hx hb dX7_taken_47 rfl (lv_at hl 0 rfl) ?_
            refine db_ild hx hb hK hS 26 0 (mm_k 26 rfl) rfl ((mm_want Xa sz t.toNatClampNeg).toNatClampNeg) (hwin.eq hn2) (Nat.lt_of_lt_of_le (hwin.lt hn2) hN.2.2.2.1) (by decide) dX7_taken_48 ?_
            refine lv_iload_n hx hb dX7_taken_49 rfl (lv_at hl 2 rfl) ?_
            refine db_ist hx hb hK hS 23 0 (mm_k 23 rfl) (fun _ => rfl) ((Xa 26 0 ((mm_want Xa sz t.toNatClampNeg).toNatClampNeg)).toNatClampNeg) (hlk.eq hn1) (Nat.lt_of_lt_of_le (hlk.lt hn1) hN.2.2.1) (by decide) dX7_taken_50 (fun H locs hS => ?_)
            obtain ⟨X4, eX4⟩ : ∃ z, z = db_up Xa 23 0 ((Xa 26 0 ((mm_want Xa sz t.toNatClampNeg).toNatClampNeg)).toNatClampNeg) t := ⟨_, rfl⟩
            rw [← eX4] at hS
            refine lv_goto (tgt := 72) hx hb dX7_taken_51 (by decide) ?_
            refine lv_goto (tgt := 6) hx hb dX7_taken_72 (by decide) ?_
            have hI1 : mm_I N sz X4 := by rw [eX4]; exact hIa.up23 (Or.inr htin)
            have hta1 : t = -1 ∨ (db_in t (N 0) ∧ ¬ mm_isP N X4 (nI t.toNatClampNeg) = 0 ∧ X4 21 0 t.toNatClampNeg = -1) := Or.inr ⟨htin, by rw [eX4, mm_isP_up (by decide)]; exact htr.1, by rw [eX4]; simp [db_up]; exact htr.2⟩
            have h1 := mm_mea23 (N := N) (Y := Xa) (i := t.toNatClampNeg) (by have := htin.lt hn0; omega) (hlk.lt hn1) c36
            rw [← htin.eq hn0] at h1
            obtain ⟨g1, rfl⟩ : ∃ g1, g = g1 + 1 := ⟨g - 1, by omega⟩
            have hme1 : mm_mea N X4 < g1 + 1 := by rw [eX4]; omega
            have hrem1 : mm_tk N X sz = mm_tkF N sz (g1 + 1) t X4 := by rw [hrem, mm_tkF, if_neg c8, if_neg c19, if_pos c36, eX4]
            exact ih6 g1 t X4 (by omega) hI1 hta1 hme1 hrem1 _ _ hS _ (lv_sub hl [1, 2] rfl)
        · refine lv_iload_n hx hb dX7_taken_22 rfl (lv_at hl 2 rfl) ?_
          exact hret _ _ _ _ _ _ hS (by rw [hrem, mm_tkF, if_neg c8, if_pos c19]) (by rw [hrem, mm_tkF, if_neg c8, if_pos c19]) dX7_taken_23
  have hI1 : mm_I N sz X1 := by rw [eX1]; exact hI.rk
  have hta1 : mm_ahead N X1 (-1) = -1 ∨ (db_in (mm_ahead N X1 (-1)) (N 0) ∧ ¬ mm_isP N X1 (nI (mm_ahead N X1 (-1)).toNatClampNeg) = 0 ∧ X1 21 0 (mm_ahead N X1 (-1)).toNatClampNeg = -1) := by
    by_cases z9 : mm_ahead N X1 (-1) = -1
    · exact Or.inl z9
    · exact Or.inr ⟨mm_ahead_in z9, mm_ahead_ready hn0 z9⟩
  have hme1 : mm_mea N X1 < 59 + 1 := by
    have h1 := db_cn_le (f := mm_rdy N X1) (N 0)
    have h2 := db_cn_le (f := mm_fre X1) (N 1)
    have h3 := hN.2.1
    have h4 := hN.2.2.1
    unfold mm_mea; omega
  have hrem1 : mm_tk N X sz = mm_tkF N sz (59 + 1) (mm_ahead N X1 (-1)) X1 := by rw [eX1]; rfl
  exact K6 _ 59 (mm_ahead N X1 (-1)) X1 (Nat.le_refl _) hI1 hta1 hme1 hrem1 _ _ hS _ (lv_sub hl [1, 0] rfl)
