set_option maxHeartbeats 4000000 in
set_option maxRecDepth 100000 in
theorem c_X7_works (l : Launch) (Γ : db_G) (N : Nat → Nat) (L : Nat → Nat → Nat) (X : db_X) (hN : bb_N N) (sz i : Nat) (hI : mm_I N sz X) (hi : i < N 0) (hw : X 21 0 i = -1) : db_C l Γ yX7_works cX7_works 4 (none) (db_rm 5 110) [.ref (L 0 0), .int (nI i)] L mm_ok (mm_cel Γ N L) X none (mm_wk N X sz i) := by
  have hn0 : N 0 < 2 ^ 31 := by have := hN.2.1; omega
  have hn1 : N 1 < 2 ^ 31 := by have := hN.2.2.1; omega
  have hn2 : N 2 < 2 ^ 31 := by have := hN.2.2.2.1; omega
  have hn3 : N 3 < 2 ^ 31 := by have := hN.2.2.2.2; omega
  refine db_introV (by decide +kernel) (Nat.le_of_ble_eq_true rfl) ?_
  intro p e s m args below meth c A Q ls hC hS hl hret
  have hC : db_Cx p s m args meth c Γ RX7 cX7_works 4 (none) := hC
  obtain ⟨hx, hb, hml, hr, hlocks, hown, hts, hK⟩ := id hC
  have hl : lv_has ls 4 [(0, .ref (L 0 0)), (1, .int (nI i))] := hl
  refine lv_aload_n hx hb dX7_works_0 rfl (lv_at hl 0 rfl) ?_
  refine db_get hx hb hts hown hK hS 0 0 (mm_k 0 rfl) rfl db_c7 20 (by decide) wd_461 rfl dX7_works_1 ?_
  refine lv_iload_n hx hb dX7_works_4 rfl (lv_at hl 1 rfl) ?_
  refine lv_dup2_11 hx hb dX7_works_5 rfl rfl ?_
  refine db_ild hx hb hK hS 20 0 (mm_k 20 rfl) rfl i rfl (Nat.lt_of_lt_of_le hi hN.2.1) (by decide) dX7_works_6 ?_
  refine lv_iconst (v := 1) hx hb dX7_works_7 (by decide) ?_
  refine lv_iadd hx hb dX7_works_8 ?_
  refine db_ist hx hb hK hS 20 0 (mm_k 20 rfl) (fun _ => rfl) i rfl (Nat.lt_of_lt_of_le hi hN.2.1) (by decide) dX7_works_9 (fun H locs hS => ?_)
  obtain ⟨X1, eX1⟩ : ∃ z, z = db_up X 20 0 i ((X 20 0 i) + 1) := ⟨_, rfl⟩
  rw [← eX1] at hS
  have hI1 : mm_I N sz X1 := by rw [eX1]; exact hI.up rfl
  refine lv_aload_n hx hb dX7_works_10 rfl (lv_at hl 0 rfl) ?_
  refine lv_iload_n hx hb dX7_works_11 rfl (lv_at hl 1 rfl) ?_
  refine db_cV (As := [.int (nI i)]) (rest := []) (st1 := [.int (mm_end X1 sz i)]) hC hS 0 0 (mm_k 0 rfl) rfl db_c7 (c_X7_ending l Γ N L X1 hN sz i hI1 hi) (cw_X7_ending (Nat.le_of_ble_eq_true rfl) (Nat.le_of_ble_eq_true rfl)) wd_627 wd_629 ws_48 rfl hl.1 rfl (Nat.le_of_ble_eq_true rfl) dX7_works_12 ⟨Nat.le_of_ble_eq_true rfl, Nat.le_of_ble_eq_true rfl⟩ rfl (fun H locs hS => ?_)
  refine lv_istore_n (lv' := [(2, .int (mm_end X1 sz i)), (0, .ref (L 0 0)), (1, .int (nI i))]) hx hb dX7_works_15 rfl hl (by decide) rfl (fun ls hl => ?_)
  have K16 : ∀ (q : Nat) (g : Nat) (Xa : db_X) (hq : g + 1 ≤ q) (hIa : mm_I N sz Xa) (hwa : Xa 21 0 i = -1) (hha : db_cn (mm_hld Xa i) (N 1) < g + 1) (hrem : mm_wk N X sz i = mm_wk2 (mm_wkF N sz i (g + 1) Xa) i) (H : Heap) (locs : List Loc) (hS : db_S Γ A s.heap L mm_ok (mm_cel Γ N L) Xa H locs) (ls : Array Slot) (hl : lv_has ls 4 [(0, .ref (L 0 0)), (1, .int (nI i)), (2, .int (mm_end Xa sz i))]), W p l e (db_rm 5 110) s m args below meth c H locs 0 0 Q (F0 m 16 ls []) := by
    intro q16
    induction q16 with
    | zero =>
      intro g Xa hq16 hIa hwa hha hrem
      exact absurd hq16 (by omega)
    | succ q16 ih16 =>
      intro g Xa hq16 hIa hwa hha hrem H locs hS ls hl
      refine lv_iload_n hx hb dX7_works_16 rfl (lv_at hl 2 rfl) ?_
      refine lv_iconst (v := -1) hx hb dX7_works_17 (by decide) ?_
      refine lv_icmp_eq (tgt := 40) hx hb dX7_works_18 (by decide) (fun c18 => ?_) (fun c18 => ?_)
      · rw [mm_wkF, if_pos c18] at hrem
        refine lv_aload_n hx hb dX7_works_40 rfl (lv_at hl 0 rfl) ?_
        refine db_get hx hb hts hown hK hS 0 0 (mm_k 0 rfl) rfl db_c7 20 (by decide) wd_461 rfl dX7_works_41 ?_
        refine lv_iload_n hx hb dX7_works_44 rfl (lv_at hl 1 rfl) ?_
        refine db_ild hx hb hK hS 20 0 (mm_k 20 rfl) rfl i rfl (Nat.lt_of_lt_of_le hi hN.2.1) (by decide) dX7_works_45 ?_
        refine lv_aload_n hx hb dX7_works_46 rfl (lv_at hl 0 rfl) ?_
        refine db_get hx hb hts hown hK hS 0 0 (mm_k 0 rfl) rfl db_c7 8 (by decide) wd_449 rfl dX7_works_47 ?_
        refine lv_iload_n hx hb dX7_works_50 rfl (lv_at hl 1 rfl) ?_
        refine db_ild hx hb hK hS 8 0 (mm_k 8 rfl) rfl i rfl (Nat.lt_of_lt_of_le hi hN.2.1) (by decide) dX7_works_51 ?_
        refine lv_icmp_ge (tgt := 56) hx hb dX7_works_52 (by decide) (fun c52 => ?_) (fun c52 => ?_)
        · refine lv_aload_n hx hb dX7_works_56 rfl (lv_at hl 0 rfl) ?_
          refine db_get hx hb hts hown hK hS 0 0 (mm_k 0 rfl) rfl db_c7 17 (by decide) wd_458 rfl dX7_works_57 ?_
          refine lv_iload_n hx hb dX7_works_60 rfl (lv_at hl 1 rfl) ?_
          refine lv_iconst (v := 0) hx hb dX7_works_61 (by decide) ?_
          refine db_zst hx hb hK hS 17 0 (mm_k 17 rfl) (fun _ => rfl) i rfl (Nat.lt_of_lt_of_le hi hN.2.1) (by decide) (Or.inl rfl) dX7_works_62 (fun H locs hS => ?_)
          obtain ⟨X2, eX2⟩ : ∃ z, z = db_up Xa 17 0 i 0 := ⟨_, rfl⟩
          rw [← eX2] at hS
          refine lv_aload_n hx hb dX7_works_63 rfl (lv_at hl 0 rfl) ?_
          refine db_get hx hb hts hown hK hS 0 0 (mm_k 0 rfl) rfl db_c7 12 (by decide) wd_453 rfl dX7_works_64 ?_
          refine lv_iload_n hx hb dX7_works_67 rfl (lv_at hl 1 rfl) ?_
          refine lv_dup2_11 hx hb dX7_works_68 rfl rfl ?_
          refine db_ild hx hb hK hS 12 0 (mm_k 12 rfl) rfl i rfl (Nat.lt_of_lt_of_le hi hN.2.1) (by decide) dX7_works_69 ?_
          refine lv_iconst (v := 1) hx hb dX7_works_70 (by decide) ?_
          refine lv_iadd hx hb dX7_works_71 ?_
          refine db_ist hx hb hK hS 12 0 (mm_k 12 rfl) (fun _ => rfl) i rfl (Nat.lt_of_lt_of_le hi hN.2.1) (by decide) dX7_works_72 (fun H locs hS => ?_)
          obtain ⟨X3, eX3⟩ : ∃ z, z = db_up X2 12 0 i ((X2 12 0 i) + 1) := ⟨_, rfl⟩
          rw [← eX3] at hS
          refine lv_aload_n hx hb dX7_works_73 rfl (lv_at hl 0 rfl) ?_
          refine db_get hx hb hts hown hK hS 0 0 (mm_k 0 rfl) rfl db_c7 5 (by decide) wd_446 rfl dX7_works_74 ?_
          refine lv_iconst (v := 1) hx hb dX7_works_77 (by decide) ?_
          refine lv_iadd hx hb dX7_works_78 ?_
          refine lv_aload_n hx hb dX7_works_79 rfl (lv_at hl 0 rfl) ?_
          refine db_get hx hb hts hown hK hS 0 0 (mm_k 0 rfl) rfl db_c7 18 (by decide) wd_459 rfl dX7_works_80 ?_
          refine lv_iload_n hx hb dX7_works_83 rfl (lv_at hl 1 rfl) ?_
          refine db_ild hx hb hK hS 18 0 (mm_k 18 rfl) rfl i rfl (Nat.lt_of_lt_of_le hi hN.2.1) (by decide) dX7_works_84 ?_
          refine lv_isub hx hb dX7_works_85 ?_
          refine lv_istore_n (lv' := [(3, .int (((X3 0 0 5) + 1) - (X3 18 0 i))), (0, .ref (L 0 0)), (1, .int (nI i)), (2, .int (mm_end Xa sz i))]) hx hb dX7_works_86 rfl hl (by decide) rfl (fun ls hl => ?_)
          refine lv_iload_n hx hb dX7_works_87 rfl (lv_at hl 0 rfl) ?_
          refine lv_aload_n hx hb dX7_works_88 rfl (lv_at hl 1 rfl) ?_
          refine db_get hx hb hts hown hK hS 0 0 (mm_k 0 rfl) rfl db_c7 16 (by decide) wd_457 rfl dX7_works_89 ?_
          refine lv_iload_n hx hb dX7_works_92 rfl (lv_at hl 2 rfl) ?_
          refine db_ild hx hb hK hS 16 0 (mm_k 16 rfl) rfl i rfl (Nat.lt_of_lt_of_le hi hN.2.1) (by decide) dX7_works_93 ?_
          refine lv_icmp_le (tgt := 104) hx hb dX7_works_94 (by decide) (fun c94 => ?_) (fun c94 => ?_)
          · exact hret _ _ _ _ _ hS (by rw [hrem, mm_wk2, if_pos c52]; show _ = mm_w5 (mm_w4 (mm_w3 Xa i) i) i; rw [show mm_w4 (mm_w3 Xa i) i = X3 by rw [eX3, eX2]; rfl, mm_w5, if_pos c94]) dX7_works_104
          · refine lv_aload_n hx hb dX7_works_97 rfl (lv_at hl 1 rfl) ?_
            refine db_get hx hb hts hown hK hS 0 0 (mm_k 0 rfl) rfl db_c7 16 (by decide) wd_457 rfl dX7_works_98 ?_
            refine lv_iload_n hx hb dX7_works_101 rfl (lv_at hl 2 rfl) ?_
            refine lv_iload_n hx hb dX7_works_102 rfl (lv_at hl 0 rfl) ?_
            refine db_ist hx hb hK hS 16 0 (mm_k 16 rfl) (fun _ => rfl) i rfl (Nat.lt_of_lt_of_le hi hN.2.1) (by decide) dX7_works_103 (fun H locs hS => ?_)
            obtain ⟨X4, eX4⟩ : ∃ z, z = db_up X3 16 0 i (((X3 0 0 5) + 1) - (X3 18 0 i)) := ⟨_, rfl⟩
            rw [← eX4] at hS
            exact hret _ _ _ _ _ hS (by rw [hrem, mm_wk2, if_pos c52]; show _ = mm_w5 (mm_w4 (mm_w3 Xa i) i) i; rw [show mm_w4 (mm_w3 Xa i) i = X3 by rw [eX3, eX2]; rfl, mm_w5, if_neg c94, eX4]) dX7_works_104
        · exact hret _ _ _ _ _ hS (by rw [hrem, mm_wk2, if_neg c52]) dX7_works_55
      · obtain ⟨w, hw9, ew, hsel⟩ := mm_end_in c18
        have hsz : sz < 2 ^ 31 := by have := hIa.2.2.2.1; omega
        have hwin : db_in (mm_end Xa sz i) (N 2) := ⟨w, by have := hIa.2.2.2.1; omega, ew⟩
        have hlk : db_in (Xa 26 0 (mm_end Xa sz i).toNatClampNeg) (N 1) := by rw [ew, nI_clamp (by omega)]; exact hIa.2.2.2.2 w hw9
        have hhold : Xa 23 0 (Xa 26 0 (mm_end Xa sz i).toNatClampNeg).toNatClampNeg = nI i := by
          rw [ew, nI_clamp (by omega)]
          simp only [mm_esel, decide_eq_true_eq] at hsel
          exact hsel.2.2
        refine lv_aload_n hx hb dX7_works_21 rfl (lv_at hl 0 rfl) ?_
        refine lv_aload_n hx hb dX7_works_22 rfl (lv_at hl 0 rfl) ?_
        refine db_get hx hb hts hown hK hS 0 0 (mm_k 0 rfl) rfl db_c7 26 (by decide) wd_467 rfl dX7_works_23 ?_
        refine lv_iload_n hx hb dX7_works_26 rfl (lv_at hl 2 rfl) ?_
        refine db_ild hx hb hK hS 26 0 (mm_k 26 rfl) rfl ((mm_end Xa sz i).toNatClampNeg) (hwin.eq hn2) (Nat.lt_of_lt_of_le (hwin.lt hn2) hN.2.2.2.1) (by decide) dX7_works_27 ?_
        refine db_cV (As := [.int (Xa 26 0 ((mm_end Xa sz i).toNatClampNeg))]) (rest := []) (st1 := []) hC hS 0 0 (mm_k 0 rfl) rfl db_c7 (c_X7_letsGo' l Γ N L Xa hN (Xa 26 0 ((mm_end Xa sz i).toNatClampNeg)) sz hIa hlk) (cw_X7_letsGo (Nat.le_of_ble_eq_true rfl) (Nat.le_of_ble_eq_true rfl)) wd_579 wd_581 ws_38 rfl hl.1 rfl (Nat.le_of_ble_eq_true rfl) dX7_works_28 ⟨Nat.le_of_ble_eq_true rfl, Nat.le_of_ble_eq_true rfl⟩ rfl (fun H locs hS => ?_)
        obtain ⟨X5, eX5⟩ : ∃ z, z = mm_lg N Xa (Xa 26 0 ((mm_end Xa sz i).toNatClampNeg)).toNatClampNeg := ⟨_, rfl⟩
        rw [← eX5] at hS
        have hI1 : mm_I N sz X5 := by rw [eX5]; exact hIa.lg
        refine lv_aload_n hx hb dX7_works_31 rfl (lv_at hl 0 rfl) ?_
        refine lv_iload_n hx hb dX7_works_32 rfl (lv_at hl 1 rfl) ?_
        refine db_cV (As := [.int (nI i)]) (rest := []) (st1 := [.int (mm_end X5 sz i)]) hC hS 0 0 (mm_k 0 rfl) rfl db_c7 (c_X7_ending l Γ N L X5 hN sz i hI1 hi) (cw_X7_ending (Nat.le_of_ble_eq_true rfl) (Nat.le_of_ble_eq_true rfl)) wd_627 wd_629 ws_48 rfl hl.1 rfl (Nat.le_of_ble_eq_true rfl) dX7_works_33 ⟨Nat.le_of_ble_eq_true rfl, Nat.le_of_ble_eq_true rfl⟩ rfl (fun H locs hS => ?_)
        refine lv_istore_n (lv' := [(2, .int (mm_end X5 sz i)), (0, .ref (L 0 0)), (1, .int (nI i))]) hx hb dX7_works_36 rfl hl (by decide) rfl (fun ls hl => ?_)
        refine lv_goto (tgt := 16) hx hb dX7_works_37 (by decide) ?_
        obtain ⟨hhn, hw1⟩ := mm_lg_hld hN hi (hlk.lt hn1) hwa hhold
        rw [← eX5] at hhn hw1
        obtain ⟨g1, rfl⟩ : ∃ g1, g = g1 + 1 := ⟨g - 1, by omega⟩
        have hh1 : db_cn (mm_hld X5 i) (N 1) < g1 + 1 := by omega
        have hrem1 : mm_wk N X sz i = mm_wk2 (mm_wkF N sz i (g1 + 1) X5) i := by rw [hrem, mm_wkF, if_neg c18, eX5]
        exact ih16 g1 X5 (by omega) hI1 hw1 hh1 hrem1 _ _ hS _ (lv_sub hl [1, 2, 0] rfl)
  have hw1 : X1 21 0 i = -1 := by rw [eX1]; simp [db_up]; exact hw
  have hh1 : db_cn (mm_hld X1 i) (N 1) < 19 + 1 := by
    have h1 := db_cn_le (f := mm_hld X1 i) (N 1)
    have h4 := hN.2.2.1
    omega
  have hrem1 : mm_wk N X sz i = mm_wk2 (mm_wkF N sz i (19 + 1) X1) i := by rw [eX1]; rfl
  exact K16 _ 19 X1 (Nat.le_refl _) hI1 hw1 hh1 hrem1 _ _ hS _ (lv_sub hl [1, 2, 0] rfl)

theorem c_X7_works' (l : Launch) (Γ : db_G) (N : Nat → Nat) (L : Nat → Nat → Nat) (X : db_X) (hN : bb_N N) (t : Int32) (sz : Nat) (hI : mm_I N sz X) (ht : db_in t (N 0)) (hw : X 21 0 t.toNatClampNeg = -1) : db_C l Γ yX7_works cX7_works 4 none (db_rm 5 110) [.ref (L 0 0), .int t] L mm_ok (mm_cel Γ N L) X none (mm_wk N X sz t.toNatClampNeg) := by
  have hn0 : N 0 < 2 ^ 31 := by have := hN.2.1; omega
  have h := c_X7_works l Γ N L X hN sz t.toNatClampNeg hI (ht.lt hn0) hw
  rw [← ht.eq hn0] at h
  exact h

set_option maxHeartbeats 4000000 in
set_option maxRecDepth 100000 in
theorem c_X7_counts (l : Launch) (Γ : db_G) (N : Nat → Nat) (L : Nat → Nat → Nat) (X : db_X) (hN : bb_N N) (r : Int32) : db_C l Γ yX7_counts cX7_counts 4 (none) (db_rm 2 42) [.ref (L 0 0), .int r] L mm_ok (mm_cel Γ N L) X none (mm_ct N r X (N 0)) := by
  have hn0 : N 0 < 2 ^ 31 := by have := hN.2.1; omega
  have hn1 : N 1 < 2 ^ 31 := by have := hN.2.2.1; omega
  have hn2 : N 2 < 2 ^ 31 := by have := hN.2.2.2.1; omega
  have hn3 : N 3 < 2 ^ 31 := by have := hN.2.2.2.2; omega
  refine db_introV (by decide +kernel) (Nat.le_of_ble_eq_true rfl) ?_
  intro p e s m args below meth c A Q ls hC hS hl hret
  have hC : db_Cx p s m args meth c Γ RX7 cX7_counts 4 (none) := hC
  obtain ⟨hx, hb, hml, hr, hlocks, hown, hts, hK⟩ := id hC
  have hl : lv_has ls 4 [(0, .ref (L 0 0)), (1, .int r)] := hl
  refine lv_iconst (v := 0) hx hb dX7_counts_0 (by decide) ?_
  refine lv_istore_n (lv' := [(2, .int 0), (0, .ref (L 0 0)), (1, .int r)]) hx hb dX7_counts_1 rfl hl (by decide) rfl (fun ls hl => ?_)
  have K2 : ∀ (q : Nat) (i : Nat) (Xa : db_X) (hq : N 0 + 1 - i ≤ q) (hi0 : i ≤ N 0) (eXa : Xa = mm_ct N r X i) (H : Heap) (locs : List Loc) (hS : db_S Γ A s.heap L mm_ok (mm_cel Γ N L) Xa H locs) (ls : Array Slot) (hl : lv_has ls 4 [(0, .ref (L 0 0)), (1, .int r), (2, .int (nI i))]), W p l e (db_rm 2 42) s m args below meth c H locs 0 0 Q (F0 m 2 ls []) := by
    intro q2
    induction q2 with
    | zero =>
      intro i Xa hq2 hi0 eXa
      exact absurd hq2 (by omega)
    | succ q2 ih2 =>
      intro i Xa hq2 hi0 eXa H locs hS ls hl
      refine lv_iload_n hx hb dX7_counts_2 rfl (lv_at hl 2 rfl) ?_
      refine lv_aload_n hx hb dX7_counts_3 rfl (lv_at hl 0 rfl) ?_
      refine db_get hx hb hts hown hK hS 0 0 (mm_k 0 rfl) rfl db_c7 0 (by decide) wd_441 rfl dX7_counts_4 ?_
      refine lv_icmp_ge (tgt := 109) hx hb dX7_counts_7 (by decide) (fun c7 => ?_) (fun c7 => ?_)
      · have hi : i = N 0 := by
          rcases Nat.lt_or_ge i (N 0) with q9 | q9
          · exact absurd c7 (nI_ge q9 hn0)
          · omega
        exact hret _ _ _ _ _ hS (by rw [eXa, hi]) dX7_counts_109
      · have hi : i < N 0 := by
          rcases Nat.lt_or_ge i (N 0) with q9 | q9
          · exact q9
          · exact absurd (nI_le q9 (by omega)) c7
        refine lv_aload_n hx hb dX7_counts_10 rfl (lv_at hl 0 rfl) ?_
        refine lv_iload_n hx hb dX7_counts_11 rfl (lv_at hl 2 rfl) ?_
        refine db_cV (As := [.int (nI i)]) (rest := []) (st1 := [.int (mm_isP N Xa (nI i))]) hC hS 0 0 (mm_k 0 rfl) rfl db_c7 (c_X7_isPending l Γ N L Xa hN (nI i) ) (cw_X7_isPending (Nat.le_of_ble_eq_true rfl) (Nat.le_of_ble_eq_true rfl)) wd_591 wd_593 ws_41 rfl hl.1 rfl (Nat.le_of_ble_eq_true rfl) dX7_counts_12 ⟨Nat.le_of_ble_eq_true rfl, Nat.le_of_ble_eq_true rfl⟩ rfl (fun H locs hS => ?_)
        refine lv_istore_n (lv' := [(3, .int (mm_isP N Xa (nI i))), (0, .ref (L 0 0)), (1, .int r), (2, .int (nI i))]) hx hb dX7_counts_15 rfl hl (by decide) rfl (fun ls hl => ?_)
        have K16 : ∀ (b : Int32) (ebb : b = mm_isP N Xa (nI i)) (H : Heap) (locs : List Loc) (hS : db_S Γ A s.heap L mm_ok (mm_cel Γ N L) Xa H locs) (ls : Array Slot) (hl : lv_has ls 4 [(0, .ref (L 0 0)), (1, .int r), (2, .int (nI i)), (3, .int b)]), W p l e (db_rm 2 42) s m args below meth c H locs 0 0 Q (F0 m 16 ls []) := by
          intro b ebb H locs hS ls hl
          have K40 : ∀ (Xb : db_X) (eXb : Xb = mm_c1 b Xa i) (H : Heap) (locs : List Loc) (hS : db_S Γ A s.heap L mm_ok (mm_cel Γ N L) Xb H locs) (ls : Array Slot) (hl : lv_has ls 4 [(0, .ref (L 0 0)), (1, .int r), (2, .int (nI i)), (3, .int b)]), W p l e (db_rm 2 42) s m args below meth c H locs 0 0 Q (F0 m 40 ls []) := by
            intro Xb eXb H locs hS ls hl
            have K83 : ∀ (Xc : db_X) (eXc : Xc = mm_c2 b r Xb i) (H : Heap) (locs : List Loc) (hS : db_S Γ A s.heap L mm_ok (mm_cel Γ N L) Xc H locs) (ls : Array Slot) (hl : lv_has ls 4 [(0, .ref (L 0 0)), (1, .int r), (2, .int (nI i)), (3, .int b)]), W p l e (db_rm 2 42) s m args below meth c H locs 0 0 Q (F0 m 83 ls []) := by
              intro Xc eXc H locs hS ls hl
              have K102 : ∀ (w : Int32) (hw01 : w = 0 ∨ w = 1) (ew : w = if ¬ b = 0 ∧ r = nI i then 1 else 0) (H : Heap) (locs : List Loc) (hS : db_S Γ A s.heap L mm_ok (mm_cel Γ N L) Xc H locs) (ls : Array Slot) (hl : lv_has ls 4 [(0, .ref (L 0 0)), (1, .int r), (2, .int (nI i)), (3, .int b)]), W p l e (db_rm 2 42) s m args below meth c H locs 0 0 Q (F0 m 102 ls [.int w, .int (nI i), .ref (L 22 0)]) := by
                intro w hw01 ew H locs hS ls hl
                refine db_zst hx hb hK hS 22 0 (mm_k 22 rfl) (fun _ => rfl) i rfl (Nat.lt_of_lt_of_le hi hN.2.1) (by decide) hw01 dX7_counts_102 (fun H locs hS => ?_)
                obtain ⟨X1, eX1⟩ : ∃ z, z = db_up Xc 22 0 i w := ⟨_, rfl⟩
                rw [← eX1] at hS
                refine lv_iinc (v := (nI (i + 1))) (lv' := [(2, .int (nI (i + 1))), (0, .ref (L 0 0)), (1, .int r), (3, .int b)]) hx hb dX7_counts_103 hl (k := 2) rfl (nI_1 _) (by decide) rfl (fun ls hl => ?_)
                refine lv_goto (tgt := 2) hx hb dX7_counts_106 (by decide) ?_
                exact ih2 (i + 1) X1 (by omega) hi (by rw [mm_ct, mm_ct1, ← eXa, ← ebb, ← eXb, ← eXc, mm_c3, ← ew, eX1]) _ _ hS _ (lv_sub hl [1, 2, 0] rfl)
              refine lv_aload_n hx hb dX7_counts_83 rfl (lv_at hl 0 rfl) ?_
              refine db_get hx hb hts hown hK hS 0 0 (mm_k 0 rfl) rfl db_c7 22 (by decide) wd_463 rfl dX7_counts_84 ?_
              refine lv_iload_n hx hb dX7_counts_87 rfl (lv_at hl 2 rfl) ?_
              refine lv_iload_n hx hb dX7_counts_88 rfl (lv_at hl 3 rfl) ?_
              refine lv_if_eq (tgt := 101) hx hb dX7_counts_89 (by decide) (fun c89 => ?_) (fun c89 => ?_)
              · refine lv_iconst (v := 0) hx hb dX7_counts_101 (by decide) ?_
                exact K102 0 (Or.inl rfl) (by rw [if_neg (fun q => q.1 c89)]) _ _ hS _ (lv_sub hl [0, 1, 2, 3] rfl)
              · refine lv_iload_n hx hb dX7_counts_92 rfl (lv_at hl 1 rfl) ?_
                refine lv_iload_n hx hb dX7_counts_93 rfl (lv_at hl 2 rfl) ?_
                refine lv_icmp_ne (tgt := 101) hx hb dX7_counts_94 (by decide) (fun c94 => ?_) (fun c94 => ?_)
                · refine lv_iconst (v := 0) hx hb dX7_counts_101 (by decide) ?_
                  exact K102 0 (Or.inl rfl) (by rw [if_neg (fun q => c94 q.2)]) _ _ hS _ (lv_sub hl [0, 1, 2, 3] rfl)
                · refine lv_iconst (v := 1) hx hb dX7_counts_97 (by decide) ?_
                  refine lv_goto (tgt := 102) hx hb dX7_counts_98 (by decide) ?_
                  exact K102 1 (Or.inr rfl) (by rw [if_pos ⟨c89, c94⟩]) _ _ hS _ (lv_sub hl [0, 1, 2, 3] rfl)
            refine lv_iload_n hx hb dX7_counts_40 rfl (lv_at hl 3 rfl) ?_
            refine lv_if_eq (tgt := 83) hx hb dX7_counts_41 (by decide) (fun c41 => ?_) (fun c41 => ?_)
            · exact K83 Xb (by rw [mm_c2, if_neg (fun q => q.1 c41)]) _ _ hS _ (lv_sub hl [0, 1, 2, 3] rfl)
            · refine lv_aload_n hx hb dX7_counts_44 rfl (lv_at hl 0 rfl) ?_
              refine db_get hx hb hts hown hK hS 0 0 (mm_k 0 rfl) rfl db_c7 22 (by decide) wd_463 rfl dX7_counts_45 ?_
              refine lv_iload_n hx hb dX7_counts_48 rfl (lv_at hl 2 rfl) ?_
              refine db_zld hx hb hK hS 22 0 (mm_k 22 rfl) rfl i rfl (Nat.lt_of_lt_of_le hi hN.2.1) (by decide) dX7_counts_49 ?_
              refine lv_if_eq (tgt := 83) hx hb dX7_counts_50 (by decide) (fun c50 => ?_) (fun c50 => ?_)
              · exact K83 Xb (by rw [mm_c2, if_neg (fun q => q.2.1 c50)]) _ _ hS _ (lv_sub hl [0, 1, 2, 3] rfl)
              · refine lv_aload_n hx hb dX7_counts_53 rfl (lv_at hl 0 rfl) ?_
                refine db_get hx hb hts hown hK hS 0 0 (mm_k 0 rfl) rfl db_c7 21 (by decide) wd_462 rfl dX7_counts_54 ?_
                refine lv_iload_n hx hb dX7_counts_57 rfl (lv_at hl 2 rfl) ?_
                refine db_ild hx hb hK hS 21 0 (mm_k 21 rfl) rfl i rfl (Nat.lt_of_lt_of_le hi hN.2.1) (by decide) dX7_counts_58 ?_
                refine lv_iconst (v := -1) hx hb dX7_counts_59 (by decide) ?_
                refine lv_icmp_ne (tgt := 83) hx hb dX7_counts_60 (by decide) (fun c60 => ?_) (fun c60 => ?_)
                · exact K83 Xb (by rw [mm_c2, if_neg (fun q => c60 q.2.2.1)]) _ _ hS _ (lv_sub hl [0, 1, 2, 3] rfl)
                · refine lv_iload_n hx hb dX7_counts_63 rfl (lv_at hl 1 rfl) ?_
                  refine lv_iconst (v := -1) hx hb dX7_counts_64 (by decide) ?_
                  refine lv_icmp_eq (tgt := 83) hx hb dX7_counts_65 (by decide) (fun c65 => ?_) (fun c65 => ?_)
                  · exact K83 Xb (by rw [mm_c2, if_neg (fun q => q.2.2.2.1 c65)]) _ _ hS _ (lv_sub hl [0, 1, 2, 3] rfl)
                  · refine lv_iload_n hx hb dX7_counts_68 rfl (lv_at hl 1 rfl) ?_
                    refine lv_iload_n hx hb dX7_counts_69 rfl (lv_at hl 2 rfl) ?_
                    refine lv_icmp_eq (tgt := 83) hx hb dX7_counts_70 (by decide) (fun c70 => ?_) (fun c70 => ?_)
                    · exact K83 Xb (by rw [mm_c2, if_neg (fun q => q.2.2.2.2 c70)]) _ _ hS _ (lv_sub hl [0, 1, 2, 3] rfl)
                    · refine lv_aload_n hx hb dX7_counts_73 rfl (lv_at hl 0 rfl) ?_
                      refine db_get hx hb hts hown hK hS 0 0 (mm_k 0 rfl) rfl db_c7 15 (by decide) wd_456 rfl dX7_counts_74 ?_
                      refine lv_iload_n hx hb dX7_counts_77 rfl (lv_at hl 2 rfl) ?_
                      refine lv_dup2_11 hx hb dX7_counts_78 rfl rfl ?_
                      refine db_ild hx hb hK hS 15 0 (mm_k 15 rfl) rfl i rfl (Nat.lt_of_lt_of_le hi hN.2.1) (by decide) dX7_counts_79 ?_
                      refine lv_iconst (v := 1) hx hb dX7_counts_80 (by decide) ?_
                      refine lv_iadd hx hb dX7_counts_81 ?_
                      refine db_ist hx hb hK hS 15 0 (mm_k 15 rfl) (fun _ => rfl) i rfl (Nat.lt_of_lt_of_le hi hN.2.1) (by decide) dX7_counts_82 (fun H locs hS => ?_)
                      obtain ⟨X2, eX2⟩ : ∃ z, z = db_up Xb 15 0 i ((Xb 15 0 i) + 1) := ⟨_, rfl⟩
                      rw [← eX2] at hS
                      exact K83 X2 (by rw [mm_c2, if_pos ⟨c41, c50, c60, c65, c70⟩, eX2]) _ _ hS _ (lv_sub hl [0, 1, 2, 3] rfl)
          refine lv_iload_n hx hb dX7_counts_16 rfl (lv_at hl 3 rfl) ?_
          refine lv_if_eq (tgt := 40) hx hb dX7_counts_17 (by decide) (fun c17 => ?_) (fun c17 => ?_)
          · exact K40 Xa (by rw [mm_c1, if_neg (fun q => q.1 c17)]) _ _ hS _ (lv_sub hl [0, 1, 2, 3] rfl)
          · refine lv_aload_n hx hb dX7_counts_20 rfl (lv_at hl 0 rfl) ?_
            refine db_get hx hb hts hown hK hS 0 0 (mm_k 0 rfl) rfl db_c7 21 (by decide) wd_462 rfl dX7_counts_21 ?_
            refine lv_iload_n hx hb dX7_counts_24 rfl (lv_at hl 2 rfl) ?_
            refine db_ild hx hb hK hS 21 0 (mm_k 21 rfl) rfl i rfl (Nat.lt_of_lt_of_le hi hN.2.1) (by decide) dX7_counts_25 ?_
            refine lv_iconst (v := -1) hx hb dX7_counts_26 (by decide) ?_
            refine lv_icmp_eq (tgt := 40) hx hb dX7_counts_27 (by decide) (fun c27 => ?_) (fun c27 => ?_)
            · exact K40 Xa (by rw [mm_c1, if_neg (fun q => q.2 c27)]) _ _ hS _ (lv_sub hl [0, 1, 2, 3] rfl)
            · refine lv_aload_n hx hb dX7_counts_30 rfl (lv_at hl 0 rfl) ?_
              refine db_get hx hb hts hown hK hS 0 0 (mm_k 0 rfl) rfl db_c7 14 (by decide) wd_455 rfl dX7_counts_31 ?_
              refine lv_iload_n hx hb dX7_counts_34 rfl (lv_at hl 2 rfl) ?_
              refine lv_dup2_11 hx hb dX7_counts_35 rfl rfl ?_
              refine db_ild hx hb hK hS 14 0 (mm_k 14 rfl) rfl i rfl (Nat.lt_of_lt_of_le hi hN.2.1) (by decide) dX7_counts_36 ?_
              refine lv_iconst (v := 1) hx hb dX7_counts_37 (by decide) ?_
              refine lv_iadd hx hb dX7_counts_38 ?_
              refine db_ist hx hb hK hS 14 0 (mm_k 14 rfl) (fun _ => rfl) i rfl (Nat.lt_of_lt_of_le hi hN.2.1) (by decide) dX7_counts_39 (fun H locs hS => ?_)
              obtain ⟨X3, eX3⟩ : ∃ z, z = db_up Xa 14 0 i ((Xa 14 0 i) + 1) := ⟨_, rfl⟩
              rw [← eX3] at hS
              exact K40 X3 (by rw [mm_c1, if_pos ⟨c17, c27⟩, eX3]) _ _ hS _ (lv_sub hl [0, 1, 2, 3] rfl)
        exact K16 (mm_isP N Xa (nI i)) rfl _ _ hS _ (lv_sub hl [1, 2, 3, 0] rfl)
  exact K2 _ 0 X (Nat.le_refl _) (Nat.zero_le _) rfl _ _ hS _ (lv_sub hl [1, 2, 0] rfl)

set_option maxHeartbeats 4000000 in
set_option maxRecDepth 100000 in
theorem c_X7_turns (l : Launch) (Γ : db_G) (N : Nat → Nat) (L : Nat → Nat → Nat) (X : db_X) (hN : bb_N N) (sz tm th : Nat) (hI : mm_I N sz X) (htm : X 0 0 30 = nI tm) (htm2 : tm + 40 < 2 ^ 31) (hth : X 0 0 34 = nI th) (hth2 : th < 2 ^ 31) : db_C l Γ yX7_turns cX7_turns 3 (some .boolean) (db_rm 7 154) [.ref (L 0 0)] L mm_ok (mm_cel Γ N L) X (some (.int ((mm_turn N X sz th).1))) ((mm_turn N X sz th).2) := by
  have hn0 : N 0 < 2 ^ 31 := by have := hN.2.1; omega
  have hn1 : N 1 < 2 ^ 31 := by have := hN.2.2.1; omega
  have hn2 : N 2 < 2 ^ 31 := by have := hN.2.2.2.1; omega
  have hn3 : N 3 < 2 ^ 31 := by have := hN.2.2.2.2; omega
  refine db_introZ (by decide +kernel) (Nat.le_of_ble_eq_true rfl) (mm_miss01 _) ?_
  intro p e s m args below meth c A Q ls hC hS hl hret
  have hC : db_Cx p s m args meth c Γ RX7 cX7_turns 3 (some .boolean) := hC
  obtain ⟨hx, hb, hml, hr, hlocks, hown, hts, hK⟩ := id hC
  have hl : lv_has ls 3 [(0, .ref (L 0 0))] := hl
  refine lv_aload_n hx hb dX7_turns_0 rfl (lv_at hl 0 rfl) ?_
  refine db_cV (As := []) (rest := []) (st1 := [.int ((mm_miss N X (N 0)).1)]) hC hS 0 0 (mm_k 0 rfl) rfl db_c7 (c_X7_misses l Γ N L X hN sz tm hI htm htm2) (cw_X7_misses (Nat.le_of_ble_eq_true rfl) (Nat.le_of_ble_eq_true rfl)) wd_607 wd_609 ws_43 rfl hl.1 rfl (Nat.le_of_ble_eq_true rfl) dX7_turns_1 ⟨Nat.le_of_ble_eq_true rfl, Nat.le_of_ble_eq_true rfl⟩ rfl (fun H locs hS => ?_)
  obtain ⟨X1, eX1⟩ : ∃ z, z = (mm_miss N X (N 0)).2 := ⟨_, rfl⟩
  rw [← eX1] at hS
  refine lv_istore_n (lv' := [(1, .int ((mm_miss N X (N 0)).1)), (0, .ref (L 0 0))]) hx hb dX7_turns_4 rfl hl (by decide) rfl (fun ls hl => ?_)
  refine lv_aload_n hx hb dX7_turns_5 rfl (lv_at hl 1 rfl) ?_
  refine db_cV (As := []) (rest := []) (st1 := []) hC hS 0 0 (mm_k 0 rfl) rfl db_c7 (c_X7_releases l Γ N L X1 hN) (cw_X7_releases (Nat.le_of_ble_eq_true rfl) (Nat.le_of_ble_eq_true rfl)) wd_611 wd_613 ws_44 rfl hl.1 rfl (Nat.le_of_ble_eq_true rfl) dX7_turns_6 ⟨Nat.le_of_ble_eq_true rfl, Nat.le_of_ble_eq_true rfl⟩ rfl (fun H locs hS => ?_)
  obtain ⟨X2, eX2⟩ : ∃ z, z = mm_rls X1 (N 0) := ⟨_, rfl⟩
  rw [← eX2] at hS
  have ep1 : X2 = mm_p1 N X := by rw [eX2, eX1]; rfl
  have hIp : mm_I N sz X2 := by rw [ep1]; exact hI.p1
  refine lv_aload_n hx hb dX7_turns_9 rfl (lv_at hl 1 rfl) ?_
  refine db_cV (As := []) (rest := []) (st1 := [.int ((mm_tk N X2 sz).1)]) hC hS 0 0 (mm_k 0 rfl) rfl db_c7 (c_X7_taken l Γ N L X2 hN sz hIp) (cw_X7_taken (Nat.le_of_ble_eq_true rfl) (Nat.le_of_ble_eq_true rfl)) wd_615 wd_617 ws_45 rfl hl.1 rfl (Nat.le_of_ble_eq_true rfl) dX7_turns_10 ⟨Nat.le_of_ble_eq_true rfl, Nat.le_of_ble_eq_true rfl⟩ rfl (fun H locs hS => ?_)
  obtain ⟨X3, eX3⟩ : ∃ z, z = (mm_tk N X2 sz).2 := ⟨_, rfl⟩
  rw [← eX3] at hS
  refine lv_istore_n (lv' := [(2, .int ((mm_tk N X2 sz).1)), (1, .int ((mm_miss N X (N 0)).1)), (0, .ref (L 0 0))]) hx hb dX7_turns_13 rfl hl (by decide) rfl (fun ls hl => ?_)
  have hIk : mm_I N sz X3 := by rw [eX3]; exact mm_I.tk hN hIp
  have K37 : ∀ (Xw : db_X) (eXw : Xw = mm_t2 N X3 sz (mm_tk N X2 sz).1) (H : Heap) (locs : List Loc) (hS : db_S Γ A s.heap L mm_ok (mm_cel Γ N L) Xw H locs) (ls : Array Slot) (hl : lv_has ls 3 [(0, .ref (L 0 0)), (1, .int ((mm_miss N X (N 0)).1)), (2, .int ((mm_tk N X2 sz).1))]), W p l e (db_rm 7 154) s m args below meth c H locs 0 0 Q (F0 m 37 ls []) := by
    intro Xw eXw H locs hS ls hl
    refine lv_aload_n hx hb dX7_turns_37 rfl (lv_at hl 0 rfl) ?_
    refine lv_iload_n hx hb dX7_turns_38 rfl (lv_at hl 2 rfl) ?_
    refine db_cV (As := [.int ((mm_tk N X2 sz).1)]) (rest := []) (st1 := []) hC hS 0 0 (mm_k 0 rfl) rfl db_c7 (c_X7_counts l Γ N L Xw hN ((mm_tk N X2 sz).1) ) (cw_X7_counts (Nat.le_of_ble_eq_true rfl) (Nat.le_of_ble_eq_true rfl)) wd_631 wd_633 ws_49 rfl hl.1 rfl (Nat.le_of_ble_eq_true rfl) dX7_turns_39 ⟨Nat.le_of_ble_eq_true rfl, Nat.le_of_ble_eq_true rfl⟩ rfl (fun H locs hS => ?_)
    obtain ⟨X4, eX4⟩ : ∃ z, z = mm_ct N ((mm_tk N X2 sz).1) Xw (N 0) := ⟨_, rfl⟩
    rw [← eX4] at hS
    have hth1 : X4 0 0 34 = nI th := by rw [eX4, mm_ct_fr _ 0 0 34 rfl, eXw, mm_t2_34, eX3, mm_tk_fr 0 0 34 rfl, ep1, mm_p1_34]; exact hth
    refine lv_aload_n hx hb dX7_turns_42 rfl (lv_at hl 0 rfl) ?_
    refine db_get hx hb hts hown hK hS 0 0 (mm_k 0 rfl) rfl db_c7 33 (by decide) wd_474 rfl dX7_turns_43 ?_
    refine lv_aload_n hx hb dX7_turns_46 rfl (lv_at hl 0 rfl) ?_
    refine db_get hx hb hts hown hK hS 0 0 (mm_k 0 rfl) rfl db_c7 34 (by decide) wd_475 rfl dX7_turns_47 ?_
    refine lv_bipush (v := 100) hx hb dX7_turns_50 (by decide) ?_
    refine lv_irem hx hb dX7_turns_52 (by decide) ?_
    refine lv_iload_n hx hb dX7_turns_53 rfl (lv_at hl 2 rfl) ?_
    refine db_ist hx hb hK hS 33 0 (mm_k 33 rfl) (fun _ => rfl) (th % 100) (by rw [hth1]; exact pk_rem hth2 (by decide) (by decide)) (Nat.mod_lt _ (by decide)) (by decide) dX7_turns_54 (fun H locs hS => ?_)
    obtain ⟨X5, eX5⟩ : ∃ z, z = db_up X4 33 0 (th % 100) ((mm_tk N X2 sz).1) := ⟨_, rfl⟩
    rw [← eX5] at hS
    refine lv_aload_n hx hb dX7_turns_55 rfl (lv_at hl 0 rfl) ?_
    refine lv_dup hx hb dX7_turns_56 rfl ?_
    refine db_get hx hb hts hown hK hS 0 0 (mm_k 0 rfl) rfl db_c7 34 (by decide) wd_475 rfl dX7_turns_57 ?_
    refine lv_iconst (v := 1) hx hb dX7_turns_60 (by decide) ?_
    refine lv_iadd hx hb dX7_turns_61 ?_
    refine db_put hx hb hts hown hK hS 0 0 (mm_k 0 rfl) rfl db_c7 34 (by decide) wd_475 rfl rfl rfl (Nat.le_of_ble_eq_true rfl) rfl dX7_turns_62 (fun H locs hS => ?_)
    obtain ⟨X6, eX6⟩ : ∃ z, z = db_up X5 0 0 34 ((X5 0 0 34) + 1) := ⟨_, rfl⟩
    rw [← eX6] at hS
    refine lv_aload_n hx hb dX7_turns_65 rfl (lv_at hl 0 rfl) ?_
    refine lv_dup hx hb dX7_turns_66 rfl ?_
    refine db_get hx hb hts hown hK hS 0 0 (mm_k 0 rfl) rfl db_c7 5 (by decide) wd_446 rfl dX7_turns_67 ?_
    refine lv_iconst (v := 1) hx hb dX7_turns_70 (by decide) ?_
    refine lv_iadd hx hb dX7_turns_71 ?_
    refine db_put hx hb hts hown hK hS 0 0 (mm_k 0 rfl) rfl db_c7 5 (by decide) wd_446 rfl rfl rfl (Nat.le_of_ble_eq_true rfl) rfl dX7_turns_72 (fun H locs hS => ?_)
    obtain ⟨X7, eX7⟩ : ∃ z, z = db_up X6 0 0 5 ((X6 0 0 5) + 1) := ⟨_, rfl⟩
    rw [← eX7] at hS
    refine lv_iload_n hx hb dX7_turns_75 rfl (lv_at hl 1 rfl) ?_
    exact hret _ _ _ _ _ _ hS (rfl) (by simp only [mm_turn, mm_tr]; rw [← ep1, ← eX3, ← eXw, eX7, eX6, eX5, eX4]; rfl) dX7_turns_76
  refine lv_iload_n hx hb dX7_turns_14 rfl (lv_at hl 0 rfl) ?_
  refine lv_iconst (v := -1) hx hb dX7_turns_15 (by decide) ?_
  refine lv_icmp_ne (tgt := 32) hx hb dX7_turns_16 (by decide) (fun c16 => ?_) (fun c16 => ?_)
  · have htin : db_in ((mm_tk N X2 sz).1) (N 0) := mm_tk_in.resolve_left c16
    have htw : X3 21 0 ((mm_tk N X2 sz).1).toNatClampNeg = -1 := by rw [eX3]; exact (mm_tk_rdy hn0).resolve_left c16
    refine lv_aload_n hx hb dX7_turns_32 rfl (lv_at hl 2 rfl) ?_
    refine lv_iload_n hx hb dX7_turns_33 rfl (lv_at hl 0 rfl) ?_
    refine db_cV (As := [.int ((mm_tk N X2 sz).1)]) (rest := []) (st1 := []) hC hS 0 0 (mm_k 0 rfl) rfl db_c7 (c_X7_works' l Γ N L X3 hN ((mm_tk N X2 sz).1) sz hIk htin htw) (cw_X7_works (Nat.le_of_ble_eq_true rfl) (Nat.le_of_ble_eq_true rfl)) wd_623 wd_625 ws_47 rfl hl.1 rfl (Nat.le_of_ble_eq_true rfl) dX7_turns_34 ⟨Nat.le_of_ble_eq_true rfl, Nat.le_of_ble_eq_true rfl⟩ rfl (fun H locs hS => ?_)
    obtain ⟨X8, eX8⟩ : ∃ z, z = mm_wk N X3 sz ((mm_tk N X2 sz).1).toNatClampNeg := ⟨_, rfl⟩
    rw [← eX8] at hS
    exact K37 X8 (by rw [mm_t2, if_neg c16, eX8]) _ _ hS _ (lv_sub hl [2, 1, 0] rfl)
  · refine lv_aload_n hx hb dX7_turns_19 rfl (lv_at hl 2 rfl) ?_
    refine lv_dup hx hb dX7_turns_20 rfl ?_
    refine db_get hx hb hts hown hK hS 0 0 (mm_k 0 rfl) rfl db_c7 35 (by decide) wd_476 rfl dX7_turns_21 ?_
    refine lv_iconst (v := 1) hx hb dX7_turns_24 (by decide) ?_
    refine lv_iadd hx hb dX7_turns_25 ?_
    refine db_put hx hb hts hown hK hS 0 0 (mm_k 0 rfl) rfl db_c7 35 (by decide) wd_476 rfl rfl rfl (Nat.le_of_ble_eq_true rfl) rfl dX7_turns_26 (fun H locs hS => ?_)
    obtain ⟨X9, eX9⟩ : ∃ z, z = db_up X3 0 0 35 ((X3 0 0 35) + 1) := ⟨_, rfl⟩
    rw [← eX9] at hS
    refine lv_goto (tgt := 37) hx hb dX7_turns_29 (by decide) ?_
    exact K37 X9 (by rw [mm_t2, if_pos c16, eX9]; rfl) _ _ hS _ (lv_sub hl [2, 1, 0] rfl)

set_option maxHeartbeats 4000000 in
set_option maxRecDepth 100000 in
theorem c_X7_tick (l : Launch) (Γ : db_G) (N : Nat → Nat) (L : Nat → Nat → Nat) (X : db_X) (hN : bb_N N) (sz tm th : Nat) (hI : mm_I N sz X) (htm : X 0 0 30 = nI tm) (htm2 : tm + 40 < 2 ^ 31) (hth : X 0 0 34 = nI th) (hth2 : th + 1 < 2 ^ 31) : db_C l Γ yX7_tick cX7_tick 1 (some .int) (db_rm 8 176) [.ref (L 0 0)] L mm_ok (mm_cel Γ N L) X (some (.int ((mm_tick N X sz th).1))) ((mm_tick N X sz th).2) := by
  have hn0 : N 0 < 2 ^ 31 := by have := hN.2.1; omega
  have hn1 : N 1 < 2 ^ 31 := by have := hN.2.2.1; omega
  have hn2 : N 2 < 2 ^ 31 := by have := hN.2.2.2.1; omega
  have hn3 : N 3 < 2 ^ 31 := by have := hN.2.2.2.2; omega
  refine db_introI (by decide +kernel) (Nat.le_of_ble_eq_true rfl) ?_
  intro p e s m args below meth c A Q ls hC hS hl hret
  have hC : db_Cx p s m args meth c Γ RX7 cX7_tick 1 (some .int) := hC
  obtain ⟨hx, hb, hml, hr, hlocks, hown, hts, hK⟩ := id hC
  have hl : lv_has ls 1 [(0, .ref (L 0 0))] := hl
  refine lv_aload_n hx hb dX7_tick_0 rfl (lv_at hl 0 rfl) ?_
  refine db_get hx hb hts hown hK hS 0 0 (mm_k 0 rfl) rfl db_c7 5 (by decide) wd_446 rfl dX7_tick_1 ?_
  refine lv_aload_n hx hb dX7_tick_4 rfl (lv_at hl 0 rfl) ?_
  refine db_get hx hb hts hown hK hS 0 0 (mm_k 0 rfl) rfl db_c7 4 (by decide) wd_445 rfl dX7_tick_5 ?_
  refine lv_icmp_ne (tgt := 14) hx hb dX7_tick_8 (by decide) (fun c8 => ?_) (fun c8 => ?_)
  · refine lv_aload_n hx hb dX7_tick_14 rfl (lv_at hl 0 rfl) ?_
    refine db_cV (As := []) (rest := []) (st1 := [.int ((mm_turn N X sz th).1)]) hC hS 0 0 (mm_k 0 rfl) rfl db_c7 (c_X7_turns l Γ N L X hN sz tm th hI htm htm2 hth (by omega)) (cw_X7_turns (Nat.le_of_ble_eq_true rfl) (Nat.le_of_ble_eq_true rfl)) wd_603 wd_605 ws_42 rfl hl.1 rfl (Nat.le_of_ble_eq_true rfl) dX7_tick_15 ⟨Nat.le_of_ble_eq_true rfl, Nat.le_of_ble_eq_true rfl⟩ rfl (fun H locs hS => ?_)
    obtain ⟨X1, eX1⟩ : ∃ z, z = (mm_turn N X sz th).2 := ⟨_, rfl⟩
    rw [← eX1] at hS
    refine lv_pop hx hb dX7_tick_18 rfl ?_
    refine lv_aload_n hx hb dX7_tick_19 rfl (lv_at hl 0 rfl) ?_
    refine db_get hx hb hts hown hK hS 0 0 (mm_k 0 rfl) rfl db_c7 33 (by decide) wd_474 rfl dX7_tick_20 ?_
    refine lv_aload_n hx hb dX7_tick_23 rfl (lv_at hl 0 rfl) ?_
    refine db_get hx hb hts hown hK hS 0 0 (mm_k 0 rfl) rfl db_c7 34 (by decide) wd_475 rfl dX7_tick_24 ?_
    refine lv_iconst (v := 1) hx hb dX7_tick_27 (by decide) ?_
    refine lv_isub hx hb dX7_tick_28 ?_
    refine lv_bipush (v := 100) hx hb dX7_tick_29 (by decide) ?_
    refine lv_irem hx hb dX7_tick_31 (by decide) ?_
    have h32 : X1 0 0 34 - 1 = nI th := by rw [eX1, mm_turn_34, hth, nI_1]; exact nI_pred th
    refine db_ild hx hb hK hS 33 0 (mm_k 33 rfl) rfl (th % 100) (by rw [h32]; exact pk_rem (by omega) (by decide) (by decide)) (Nat.mod_lt _ (by decide)) (by decide) dX7_tick_32 ?_
    exact hret _ _ _ _ _ _ hS (by rw [mm_tick, if_neg c8, eX1]) (by rw [mm_tick, if_neg c8, eX1]) dX7_tick_33
  · refine lv_bipush (v := -2) hx hb dX7_tick_11 (by decide) ?_
    exact hret _ _ _ _ _ _ hS (by rw [mm_tick, if_pos c8]) (by rw [mm_tick, if_pos c8]) dX7_tick_13
