set_option maxHeartbeats 4000000 in
set_option maxRecDepth 100000 in
theorem c_X3_covers (l : Launch) (Γ : db_G) (N : Nat → Nat) (L : Nat → Nat → Nat) (cnt : Nat) (X : db_X) (hN : bb_N N) (a b : Nat) (ha : a < cnt) (hb1 : b < cnt) : db_C l Γ yX3_covers cX3_covers 2 (some .boolean) (db_rm 0 0) [.ref (L 12 a), .ref (L 12 b)] L (bb_ok (N 0) cnt) (bb_cel Γ N L) X (some (.int (bb_cov X a b))) X := by
  have hn0 : N 0 < 2 ^ 31 := by have := hN.2.1; omega
  have hn1 : N 1 < 2 ^ 31 := by have := hN.2.2.1; omega
  have hn2 : N 2 < 2 ^ 31 := by have := hN.2.2.2.1; omega
  have hn3 : N 3 < 2 ^ 31 := by have := hN.2.2.2.2; omega
  refine db_introZ (by decide +kernel) (Nat.le_of_ble_eq_true rfl) (db_01 (Or.inl rfl) (db_01 (Or.inl rfl) (Or.inr rfl))) ?_
  intro p e s m args below meth c A Q ls hC hS hl hret
  have hC : db_Cx p s m args meth c Γ RX3 cX3_covers 2 (some .boolean) := hC
  obtain ⟨hx, hb, hml, hr, hlocks, hown, hts, hK⟩ := id hC
  have hl : lv_has ls 2 [(0, .ref (L 12 a)), (1, .ref (L 12 b))] := hl
  refine lv_aload_n hx hb dX3_covers_0 rfl (lv_at hl 0 rfl) ?_
  refine db_get hx hb hts hown hK hS 12 a (bb_kS ha) rfl db_c3 1 (by decide) wd_226 rfl dX3_covers_1 ?_
  refine lv_aload_n hx hb dX3_covers_4 rfl (lv_at hl 1 rfl) ?_
  refine db_get hx hb hts hown hK hS 12 b (bb_kS hb1) rfl db_c3 1 (by decide) wd_226 rfl dX3_covers_5 ?_
  refine lv_icmp_gt (tgt := 26) hx hb dX3_covers_8 (by decide) (fun c8 => ?_) (fun c8 => ?_)
  · refine lv_iconst (v := 0) hx hb dX3_covers_26 (by decide) ?_
    exact hret _ _ _ _ _ _ hS (by simp [bb_cov, c8]) (rfl) dX3_covers_27
  · refine lv_aload_n hx hb dX3_covers_11 rfl (lv_at hl 1 rfl) ?_
    refine db_get hx hb hts hown hK hS 12 b (bb_kS hb1) rfl db_c3 4 (by decide) wd_231 rfl dX3_covers_12 ?_
    refine lv_aload_n hx hb dX3_covers_15 rfl (lv_at hl 0 rfl) ?_
    refine db_get hx hb hts hown hK hS 12 a (bb_kS ha) rfl db_c3 4 (by decide) wd_231 rfl dX3_covers_16 ?_
    refine lv_icmp_gt (tgt := 26) hx hb dX3_covers_19 (by decide) (fun c19 => ?_) (fun c19 => ?_)
    · refine lv_iconst (v := 0) hx hb dX3_covers_26 (by decide) ?_
      exact hret _ _ _ _ _ _ hS (by simp [bb_cov, c8, c19]) (rfl) dX3_covers_27
    · refine lv_iconst (v := 1) hx hb dX3_covers_22 (by decide) ?_
      refine lv_goto (tgt := 27) hx hb dX3_covers_23 (by decide) ?_
      exact hret _ _ _ _ _ _ hS (by simp [bb_cov, c8, c19]) (rfl) dX3_covers_27

set_option maxHeartbeats 4000000 in
set_option maxRecDepth 100000 in
theorem c_X3_clashesWith (l : Launch) (Γ : db_G) (N : Nat → Nat) (L : Nat → Nat → Nat) (cnt : Nat) (X : db_X) (hN : bb_N N) (a b : Nat) (ha : a < cnt) (hb1 : b < cnt) : db_C l Γ yX3_clashesWith cX3_clashesWith 4 (some .boolean) (db_rm 1 21) [.ref (L 12 a), .ref (L 12 b)] L (bb_ok (N 0) cnt) (bb_cel Γ N L) X (some (.int (bb_cl X a b))) X := by
  have hn0 : N 0 < 2 ^ 31 := by have := hN.2.1; omega
  have hn1 : N 1 < 2 ^ 31 := by have := hN.2.2.1; omega
  have hn2 : N 2 < 2 ^ 31 := by have := hN.2.2.2.1; omega
  have hn3 : N 3 < 2 ^ 31 := by have := hN.2.2.2.2; omega
  refine db_introZ (by decide +kernel) (Nat.le_of_ble_eq_true rfl) (db_01 (Or.inl rfl) (db_01 (Or.inr rfl) (db_01 (Or.inl rfl) (Or.inr rfl)))) ?_
  intro p e s m args below meth c A Q ls hC hS hl hret
  have hC : db_Cx p s m args meth c Γ RX3 cX3_clashesWith 4 (some .boolean) := hC
  obtain ⟨hx, hb, hml, hr, hlocks, hown, hts, hK⟩ := id hC
  have hl : lv_has ls 4 [(0, .ref (L 12 a)), (1, .ref (L 12 b))] := hl
  have K38 : ∀ (o : Int32) (eo : o = bb_ov X a b) (H : Heap) (locs : List Loc) (hS : db_S Γ A s.heap L (bb_ok (N 0) cnt) (bb_cel Γ N L) X H locs) (ls : Array Slot) (hl : lv_has ls 4 [(0, .ref (L 12 a)), (1, .ref (L 12 b))]), W p l e (db_rm 1 21) s m args below meth c H locs 0 0 Q (F0 m 38 ls [.int o]) := by
    intro o eo H locs hS ls hl
    refine lv_istore_n (lv' := [(2, .int o), (0, .ref (L 12 a)), (1, .ref (L 12 b))]) hx hb dX3_clashesWith_38 rfl hl (by decide) rfl (fun ls hl => ?_)
    have K60 : ∀ (n : Int32) (en : n = bb_nes X a b) (H : Heap) (locs : List Loc) (hS : db_S Γ A s.heap L (bb_ok (N 0) cnt) (bb_cel Γ N L) X H locs) (ls : Array Slot) (hl : lv_has ls 4 [(0, .ref (L 12 a)), (1, .ref (L 12 b)), (2, .int o)]), W p l e (db_rm 1 21) s m args below meth c H locs 0 0 Q (F0 m 60 ls [.int n]) := by
      intro n en H locs hS ls hl
      refine lv_istore_n (lv' := [(3, .int n), (0, .ref (L 12 a)), (1, .ref (L 12 b)), (2, .int o)]) hx hb dX3_clashesWith_60 rfl hl (by decide) rfl (fun ls hl => ?_)
      refine lv_iload_n hx hb dX3_clashesWith_61 rfl (lv_at hl 3 rfl) ?_
      refine lv_if_eq (tgt := 84) hx hb dX3_clashesWith_62 (by decide) (fun c62 => ?_) (fun c62 => ?_)
      · refine lv_iconst (v := 0) hx hb dX3_clashesWith_84 (by decide) ?_
        exact hret _ _ _ _ _ _ hS (by rw [bb_cl, if_pos (eo.symm.trans c62)]) (rfl) dX3_clashesWith_85
      · refine lv_iload_n hx hb dX3_clashesWith_65 rfl (lv_at hl 0 rfl) ?_
        refine lv_if_eq (tgt := 80) hx hb dX3_clashesWith_66 (by decide) (fun c66 => ?_) (fun c66 => ?_)
        · refine lv_iconst (v := 1) hx hb dX3_clashesWith_80 (by decide) ?_
          refine lv_goto (tgt := 85) hx hb dX3_clashesWith_81 (by decide) ?_
          exact hret _ _ _ _ _ _ hS (by rw [bb_cl, if_neg (fun q => c62 (eo.trans q)), if_pos (en.symm.trans c66)]) (rfl) dX3_clashesWith_85
        · refine lv_aload_n hx hb dX3_clashesWith_69 rfl (lv_at hl 1 rfl) ?_
          refine db_get hx hb hts hown hK hS 12 a (bb_kS ha) rfl db_c3 2 (by decide) wd_228 rfl dX3_clashesWith_70 ?_
          refine lv_aload_n hx hb dX3_clashesWith_73 rfl (lv_at hl 2 rfl) ?_
          refine db_get hx hb hts hown hK hS 12 b (bb_kS hb1) rfl db_c3 2 (by decide) wd_228 rfl dX3_clashesWith_74 ?_
          refine lv_icmp_ne (tgt := 84) hx hb dX3_clashesWith_77 (by decide) (fun c77 => ?_) (fun c77 => ?_)
          · refine lv_iconst (v := 0) hx hb dX3_clashesWith_84 (by decide) ?_
            exact hret _ _ _ _ _ _ hS (by rw [bb_cl, if_neg (fun q => c62 (eo.trans q)), if_neg (fun q => c66 (en.trans q)), if_pos c77]) (rfl) dX3_clashesWith_85
          · refine lv_iconst (v := 1) hx hb dX3_clashesWith_80 (by decide) ?_
            refine lv_goto (tgt := 85) hx hb dX3_clashesWith_81 (by decide) ?_
            exact hret _ _ _ _ _ _ hS (by rw [bb_cl, if_neg (fun q => c62 (eo.trans q)), if_neg (fun q => c66 (en.trans q)), if_neg (fun q => q c77)]) (rfl) dX3_clashesWith_85
    refine lv_aload_n hx hb dX3_clashesWith_39 rfl (lv_at hl 1 rfl) ?_
    refine lv_aload_n hx hb dX3_clashesWith_40 rfl (lv_at hl 2 rfl) ?_
    refine db_cV (As := [.ref (L 12 b)]) (rest := []) (st1 := [.int (bb_cov X a b)]) hC hS 12 a (bb_kS ha) rfl db_c3 (c_X3_covers l Γ N L cnt X hN a b ha hb1) (cw_X3_covers (Nat.le_of_ble_eq_true rfl) (Nat.le_of_ble_eq_true rfl)) wd_256 wd_258 ws_6 rfl hl.1 rfl (Nat.le_of_ble_eq_true rfl) dX3_clashesWith_41 ⟨Nat.le_of_ble_eq_true rfl, Nat.le_of_ble_eq_true rfl⟩ rfl (fun H locs hS => ?_)
    refine lv_if_ne (tgt := 55) hx hb dX3_clashesWith_44 (by decide) (fun c44 => ?_) (fun c44 => ?_)
    · refine lv_iconst (v := 1) hx hb dX3_clashesWith_55 (by decide) ?_
      refine lv_goto (tgt := 60) hx hb dX3_clashesWith_56 (by decide) ?_
      exact K60 1 (by simp [bb_nes, c44]) _ _ hS _ (lv_sub hl [1, 2, 0] rfl)
    · refine lv_aload_n hx hb dX3_clashesWith_47 rfl (lv_at hl 2 rfl) ?_
      refine lv_aload_n hx hb dX3_clashesWith_48 rfl (lv_at hl 1 rfl) ?_
      refine db_cV (As := [.ref (L 12 a)]) (rest := []) (st1 := [.int (bb_cov X b a)]) hC hS 12 b (bb_kS hb1) rfl db_c3 (c_X3_covers l Γ N L cnt X hN b a hb1 ha) (cw_X3_covers (Nat.le_of_ble_eq_true rfl) (Nat.le_of_ble_eq_true rfl)) wd_256 wd_258 ws_6 rfl hl.1 rfl (Nat.le_of_ble_eq_true rfl) dX3_clashesWith_49 ⟨Nat.le_of_ble_eq_true rfl, Nat.le_of_ble_eq_true rfl⟩ rfl (fun H locs hS => ?_)
      refine lv_if_eq (tgt := 59) hx hb dX3_clashesWith_52 (by decide) (fun c52 => ?_) (fun c52 => ?_)
      · refine lv_iconst (v := 0) hx hb dX3_clashesWith_59 (by decide) ?_
        exact K60 0 (by simp [bb_nes, c44, c52]) _ _ hS _ (lv_sub hl [1, 2, 0] rfl)
      · refine lv_iconst (v := 1) hx hb dX3_clashesWith_55 (by decide) ?_
        refine lv_goto (tgt := 60) hx hb dX3_clashesWith_56 (by decide) ?_
        exact K60 1 (by simp [bb_nes, c44, c52]) _ _ hS _ (lv_sub hl [1, 2, 0] rfl)
  refine lv_aload_n hx hb dX3_clashesWith_0 rfl (lv_at hl 0 rfl) ?_
  refine db_get hx hb hts hown hK hS 12 a (bb_kS ha) rfl db_c3 0 (by decide) wd_223 rfl dX3_clashesWith_1 ?_
  refine lv_aload_n hx hb dX3_clashesWith_4 rfl (lv_at hl 1 rfl) ?_
  refine db_get hx hb hts hown hK hS 12 b (bb_kS hb1) rfl db_c3 0 (by decide) wd_223 rfl dX3_clashesWith_5 ?_
  refine lv_icmp_ne (tgt := 37) hx hb dX3_clashesWith_8 (by decide) (fun c8 => ?_) (fun c8 => ?_)
  · refine lv_iconst (v := 0) hx hb dX3_clashesWith_37 (by decide) ?_
    exact K38 0 (by simp [bb_ov, c8]) _ _ hS _ (lv_sub hl [0, 1] rfl)
  · refine lv_aload_n hx hb dX3_clashesWith_11 rfl (lv_at hl 0 rfl) ?_
    refine db_get hx hb hts hown hK hS 12 a (bb_kS ha) rfl db_c3 1 (by decide) wd_226 rfl dX3_clashesWith_12 ?_
    refine lv_aload_n hx hb dX3_clashesWith_15 rfl (lv_at hl 1 rfl) ?_
    refine db_get hx hb hts hown hK hS 12 b (bb_kS hb1) rfl db_c3 4 (by decide) wd_231 rfl dX3_clashesWith_16 ?_
    refine lv_icmp_ge (tgt := 37) hx hb dX3_clashesWith_19 (by decide) (fun c19 => ?_) (fun c19 => ?_)
    · refine lv_iconst (v := 0) hx hb dX3_clashesWith_37 (by decide) ?_
      exact K38 0 (by simp [bb_ov, c8, c19]) _ _ hS _ (lv_sub hl [0, 1] rfl)
    · refine lv_aload_n hx hb dX3_clashesWith_22 rfl (lv_at hl 1 rfl) ?_
      refine db_get hx hb hts hown hK hS 12 b (bb_kS hb1) rfl db_c3 1 (by decide) wd_226 rfl dX3_clashesWith_23 ?_
      refine lv_aload_n hx hb dX3_clashesWith_26 rfl (lv_at hl 0 rfl) ?_
      refine db_get hx hb hts hown hK hS 12 a (bb_kS ha) rfl db_c3 4 (by decide) wd_231 rfl dX3_clashesWith_27 ?_
      refine lv_icmp_ge (tgt := 37) hx hb dX3_clashesWith_30 (by decide) (fun c30 => ?_) (fun c30 => ?_)
      · refine lv_iconst (v := 0) hx hb dX3_clashesWith_37 (by decide) ?_
        exact K38 0 (by simp [bb_ov, c8, c19, c30]) _ _ hS _ (lv_sub hl [0, 1] rfl)
      · refine lv_iconst (v := 1) hx hb dX3_clashesWith_33 (by decide) ?_
        refine lv_goto (tgt := 38) hx hb dX3_clashesWith_34 (by decide) ?_
        exact K38 1 (by simp [bb_ov, c8, c19, c30]) _ _ hS _ (lv_sub hl [0, 1] rfl)

set_option maxHeartbeats 4000000 in
set_option maxRecDepth 100000 in
theorem c_X3_goesBefore (l : Launch) (Γ : db_G) (N : Nat → Nat) (L : Nat → Nat → Nat) (cnt : Nat) (X : db_X) (hN : bb_N N) (a b : Nat) (ha : a < cnt) (hb1 : b < cnt) : db_C l Γ yX3_goesBefore cX3_goesBefore 2 (some .boolean) (db_rm 0 0) [.ref (L 12 a), .ref (L 12 b)] L (bb_ok (N 0) cnt) (bb_cel Γ N L) X (some (.int (bb_gb X a b))) X := by
  have hn0 : N 0 < 2 ^ 31 := by have := hN.2.1; omega
  have hn1 : N 1 < 2 ^ 31 := by have := hN.2.2.1; omega
  have hn2 : N 2 < 2 ^ 31 := by have := hN.2.2.2.1; omega
  have hn3 : N 3 < 2 ^ 31 := by have := hN.2.2.2.2; omega
  refine db_introZ (by decide +kernel) (Nat.le_of_ble_eq_true rfl) (db_01 (db_01 (Or.inl rfl) (Or.inr rfl)) (db_01 (Or.inl rfl) (Or.inr rfl))) ?_
  intro p e s m args below meth c A Q ls hC hS hl hret
  have hC : db_Cx p s m args meth c Γ RX3 cX3_goesBefore 2 (some .boolean) := hC
  obtain ⟨hx, hb, hml, hr, hlocks, hown, hts, hK⟩ := id hC
  have hl : lv_has ls 2 [(0, .ref (L 12 a)), (1, .ref (L 12 b))] := hl
  refine lv_aload_n hx hb dX3_goesBefore_0 rfl (lv_at hl 0 rfl) ?_
  refine db_get hx hb hts hown hK hS 12 a (bb_kS ha) rfl db_c3 1 (by decide) wd_226 rfl dX3_goesBefore_1 ?_
  refine lv_aload_n hx hb dX3_goesBefore_4 rfl (lv_at hl 1 rfl) ?_
  refine db_get hx hb hts hown hK hS 12 b (bb_kS hb1) rfl db_c3 1 (by decide) wd_226 rfl dX3_goesBefore_5 ?_
  refine lv_icmp_ne (tgt := 30) hx hb dX3_goesBefore_8 (by decide) (fun c8 => ?_) (fun c8 => ?_)
  · refine lv_aload_n hx hb dX3_goesBefore_30 rfl (lv_at hl 0 rfl) ?_
    refine db_get hx hb hts hown hK hS 12 a (bb_kS ha) rfl db_c3 1 (by decide) wd_226 rfl dX3_goesBefore_31 ?_
    refine lv_aload_n hx hb dX3_goesBefore_34 rfl (lv_at hl 1 rfl) ?_
    refine db_get hx hb hts hown hK hS 12 b (bb_kS hb1) rfl db_c3 1 (by decide) wd_226 rfl dX3_goesBefore_35 ?_
    refine lv_icmp_ge (tgt := 45) hx hb dX3_goesBefore_38 (by decide) (fun c38 => ?_) (fun c38 => ?_)
    · refine lv_iconst (v := 0) hx hb dX3_goesBefore_45 (by decide) ?_
      exact hret _ _ _ _ _ _ hS (by simp [bb_gb, c8, c38]) (rfl) dX3_goesBefore_46
    · refine lv_iconst (v := 1) hx hb dX3_goesBefore_41 (by decide) ?_
      refine lv_goto (tgt := 46) hx hb dX3_goesBefore_42 (by decide) ?_
      exact hret _ _ _ _ _ _ hS (by simp [bb_gb, c8, c38]) (rfl) dX3_goesBefore_46
  · refine lv_aload_n hx hb dX3_goesBefore_11 rfl (lv_at hl 0 rfl) ?_
    refine db_get hx hb hts hown hK hS 12 a (bb_kS ha) rfl db_c3 3 (by decide) wd_230 rfl dX3_goesBefore_12 ?_
    refine lv_aload_n hx hb dX3_goesBefore_15 rfl (lv_at hl 1 rfl) ?_
    refine db_get hx hb hts hown hK hS 12 b (bb_kS hb1) rfl db_c3 3 (by decide) wd_230 rfl dX3_goesBefore_16 ?_
    refine lv_icmp_le (tgt := 26) hx hb dX3_goesBefore_19 (by decide) (fun c19 => ?_) (fun c19 => ?_)
    · refine lv_iconst (v := 0) hx hb dX3_goesBefore_26 (by decide) ?_
      refine lv_goto (tgt := 46) hx hb dX3_goesBefore_27 (by decide) ?_
      exact hret _ _ _ _ _ _ hS (by simp [bb_gb, c8, c19]) (rfl) dX3_goesBefore_46
    · refine lv_iconst (v := 1) hx hb dX3_goesBefore_22 (by decide) ?_
      refine lv_goto (tgt := 46) hx hb dX3_goesBefore_23 (by decide) ?_
      exact hret _ _ _ _ _ _ hS (by simp [bb_gb, c8, c19]) (rfl) dX3_goesBefore_46

set_option maxHeartbeats 4000000 in
set_option maxRecDepth 100000 in
theorem c_X4_clashes (l : Launch) (Γ : db_G) (N : Nat → Nat) (L : Nat → Nat → Nat) (cnt : Nat) (X : db_X) (hN : bb_N N) (sz b : Nat) (hI : bb_I N cnt sz X) (hcn : cnt < 2 ^ 31) (hb1 : b < cnt) : db_C l Γ yX4_clashes cX4_clashes 3 (some .boolean) (db_rm 2 44) [.ref (L 4 0), .ref (L 12 b)] L (bb_ok (N 0) cnt) (bb_cel Γ N L) X (some (.int (bb_clF X b sz 0))) X := by
  have hn0 : N 0 < 2 ^ 31 := by have := hN.2.1; omega
  have hn1 : N 1 < 2 ^ 31 := by have := hN.2.2.1; omega
  have hn2 : N 2 < 2 ^ 31 := by have := hN.2.2.2.1; omega
  have hn3 : N 3 < 2 ^ 31 := by have := hN.2.2.2.2; omega
  refine db_introZ (by decide +kernel) (Nat.le_of_ble_eq_true rfl) (bb_clF01 _ _) ?_
  intro p e s m args below meth c A Q ls hC hS hl hret
  have hC : db_Cx p s m args meth c Γ RX4 cX4_clashes 3 (some .boolean) := hC
  obtain ⟨hx, hb, hml, hr, hlocks, hown, hts, hK⟩ := id hC
  have hl : lv_has ls 3 [(0, .ref (L 4 0)), (1, .ref (L 12 b))] := hl
  have hsz : sz < 2 ^ 31 := by have := hI.2.2.2.1; omega
  refine lv_iconst (v := 0) hx hb dX4_clashes_0 (by decide) ?_
  refine lv_istore_n (lv' := [(2, .int 0), (0, .ref (L 4 0)), (1, .ref (L 12 b))]) hx hb dX4_clashes_1 rfl hl (by decide) rfl (fun ls hl => ?_)
  have K2 : ∀ (q : Nat) (u : Nat) (hq : sz + 1 - u ≤ q) (hu0 : u ≤ sz) (hrem : bb_clF X b sz 0 = bb_clF X b (sz - u) u) (H : Heap) (locs : List Loc) (hS : db_S Γ A s.heap L (bb_ok (N 0) cnt) (bb_cel Γ N L) X H locs) (ls : Array Slot) (hl : lv_has ls 3 [(0, .ref (L 4 0)), (1, .ref (L 12 b)), (2, .int (nI u))]), W p l e (db_rm 2 44) s m args below meth c H locs 0 0 Q (F0 m 2 ls []) := by
    intro q2
    induction q2 with
    | zero =>
      intro u hq2 hu0 hrem
      exact absurd hq2 (by omega)
    | succ q2 ih2 =>
      intro u hq2 hu0 hrem H locs hS ls hl
      refine lv_iload_n hx hb dX4_clashes_2 rfl (lv_at hl 2 rfl) ?_
      refine lv_aload_n hx hb dX4_clashes_3 rfl (lv_at hl 0 rfl) ?_
      refine db_get hx hb hts hown hK hS 4 0 (bb_k 4 rfl) rfl db_c4 1 (by decide) wd_132 rfl dX4_clashes_4 ?_
      rw [show X 4 0 1 = nI sz from hI.2.2.1]
      refine lv_icmp_ge (tgt := 31) hx hb dX4_clashes_7 (by decide) (fun c7 => ?_) (fun c7 => ?_)
      · have hu : u = sz := by
          rcases Nat.lt_or_ge u (sz) with q9 | q9
          · exact absurd c7 (nI_ge q9 hsz)
          · omega
        refine lv_iconst (v := 0) hx hb dX4_clashes_31 (by decide) ?_
        exact hret _ _ _ _ _ _ hS (by rw [hrem, hu, Nat.sub_self]; rfl) (rfl) dX4_clashes_32
      · have hu : u < sz := by
          rcases Nat.lt_or_ge u (sz) with q9 | q9
          · exact q9
          · exact absurd (nI_le q9 (by omega)) c7
        have hlk : db_in (bb_sec X u 2) (N 1) := (hI.2.2.2.2 u hu).2
        refine lv_aload_n hx hb dX4_clashes_10 rfl (lv_at hl 0 rfl) ?_
        refine db_get hx hb hts hown hK hS 4 0 (bb_k 4 rfl) rfl db_c4 0 (by decide) wd_130 rfl dX4_clashes_11 ?_
        refine lv_iload_n hx hb dX4_clashes_14 rfl (lv_at hl 2 rfl) ?_
        refine db_ald hx hb hK hS 5 0 (bb_k 5 rfl) 3 rfl rfl u rfl (Nat.lt_of_lt_of_le hu hI.2.2.2.1) hn2 (bb_rowf (hI.2.2.2.2 u hu).1 hcn) dX4_clashes_15 ?_
        refine lv_aload_n hx hb dX4_clashes_16 rfl (lv_at hl 1 rfl) ?_
        refine db_cVN (As := [.ref (L 12 b)]) (rest := []) (st1 := [.int (bb_cl X ((X 5 0 u).toNatClampNeg) b)]) hC hS 12 ((X 5 0 u).toNatClampNeg) (bb_kS ((hI.2.2.2.2 u hu).1.lt hcn)) rfl db_c3 (c_X3_clashesWith l Γ N L cnt X hN ((X 5 0 u).toNatClampNeg) b ((hI.2.2.2.2 u hu).1.lt hcn) hb1) (cw_X3_clashesWith (Nat.le_of_ble_eq_true rfl) (Nat.le_of_ble_eq_true rfl)) wn_252 wd_254 ws_5 rfl hl.1 rfl (Nat.le_of_ble_eq_true rfl) dX4_clashes_17 ⟨Nat.le_of_ble_eq_true rfl, Nat.le_of_ble_eq_true rfl⟩ rfl (fun H locs hS => ?_)
        refine lv_if_eq (tgt := 25) hx hb dX4_clashes_20 (by decide) (fun c20 => ?_) (fun c20 => ?_)
        · refine lv_iinc (v := (nI (u + 1))) (lv' := [(2, .int (nI (u + 1))), (0, .ref (L 4 0)), (1, .ref (L 12 b))]) hx hb dX4_clashes_25 hl (k := 2) rfl (nI_1 _) (by decide) rfl (fun ls hl => ?_)
          refine lv_goto (tgt := 2) hx hb dX4_clashes_28 (by decide) ?_
          exact ih2 (u + 1) (by omega) hu (by rw [hrem, show sz - u = (sz - (u + 1)) + 1 by omega, bb_clF, if_pos c20]) _ _ hS _ (lv_sub hl [1, 2, 0] rfl)
        · refine lv_iconst (v := 1) hx hb dX4_clashes_23 (by decide) ?_
          exact hret _ _ _ _ _ _ hS (by rw [hrem, show sz - u = (sz - (u + 1)) + 1 by omega, bb_clF, if_neg c20]) (rfl) dX4_clashes_24
  exact K2 _ 0 (Nat.le_refl _) (Nat.zero_le _) rfl _ _ hS _ (lv_sub hl [1, 2, 0] rfl)

set_option maxHeartbeats 4000000 in
set_option maxRecDepth 100000 in
theorem c_X4_removeAllOf (l : Launch) (Γ : db_G) (N : Nat → Nat) (L : Nat → Nat → Nat) (cnt : Nat) (X : db_X) (hN : bb_N N) (t : Int32) (sz : Nat) (hI : bb_I N cnt sz X) (hcn : cnt < 2 ^ 31) : db_C l Γ yX4_removeAllOf cX4_removeAllOf 4 (none) (db_rm 0 0) [.ref (L 4 0), .int t] L (bb_ok (N 0) cnt) (bb_cel Γ N L) X none (bb_rmA X sz t) := by
  have hn0 : N 0 < 2 ^ 31 := by have := hN.2.1; omega
  have hn1 : N 1 < 2 ^ 31 := by have := hN.2.2.1; omega
  have hn2 : N 2 < 2 ^ 31 := by have := hN.2.2.2.1; omega
  have hn3 : N 3 < 2 ^ 31 := by have := hN.2.2.2.2; omega
  refine db_introV (by decide +kernel) (Nat.le_of_ble_eq_true rfl) ?_
  intro p e s m args below meth c A Q ls hC hS hl hret
  have hC : db_Cx p s m args meth c Γ RX4 cX4_removeAllOf 4 (none) := hC
  obtain ⟨hx, hb, hml, hr, hlocks, hown, hts, hK⟩ := id hC
  have hl : lv_has ls 4 [(0, .ref (L 4 0)), (1, .int t)] := hl
  have hsz : sz < 2 ^ 31 := by have := hI.2.2.2.1; omega
  refine lv_iconst (v := 0) hx hb dX4_removeAllOf_0 (by decide) ?_
  refine lv_istore_n (lv' := [(2, .int 0), (0, .ref (L 4 0)), (1, .int t)]) hx hb dX4_removeAllOf_1 rfl hl (by decide) rfl (fun ls hl => ?_)
  refine lv_iconst (v := 0) hx hb dX4_removeAllOf_2 (by decide) ?_
  refine lv_istore_n (lv' := [(3, .int 0), (2, .int 0), (0, .ref (L 4 0)), (1, .int t)]) hx hb dX4_removeAllOf_3 rfl hl (by decide) rfl (fun ls hl => ?_)
  have K4 : ∀ (q : Nat) (u : Nat) (v : Nat) (Xa : db_X) (hq : sz + 1 - u ≤ q) (hu0 : u ≤ sz) (hv0 : v ≤ u) (hIa : bb_I N cnt sz Xa) (hrem : bb_rmF t sz 0 0 X = bb_rmF t (sz - u) u v Xa) (H : Heap) (locs : List Loc) (hS : db_S Γ A s.heap L (bb_ok (N 0) cnt) (bb_cel Γ N L) Xa H locs) (ls : Array Slot) (hl : lv_has ls 4 [(0, .ref (L 4 0)), (1, .int t), (2, .int (nI v)), (3, .int (nI u))]), W p l e (db_rm 0 0) s m args below meth c H locs 0 0 Q (F0 m 4 ls []) := by
    intro q4
    induction q4 with
    | zero =>
      intro u v Xa hq4 hu0 hv0 hIa hrem
      exact absurd hq4 (by omega)
    | succ q4 ih4 =>
      intro u v Xa hq4 hu0 hv0 hIa hrem H locs hS ls hl
      refine lv_iload_n hx hb dX4_removeAllOf_4 rfl (lv_at hl 3 rfl) ?_
      refine lv_aload_n hx hb dX4_removeAllOf_5 rfl (lv_at hl 0 rfl) ?_
      refine db_get hx hb hts hown hK hS 4 0 (bb_k 4 rfl) rfl db_c4 1 (by decide) wd_132 rfl dX4_removeAllOf_6 ?_
      rw [show Xa 4 0 1 = nI sz from hIa.2.2.1]
      refine lv_icmp_ge (tgt := 46) hx hb dX4_removeAllOf_9 (by decide) (fun c9 => ?_) (fun c9 => ?_)
      · have hu : u = sz := by
          rcases Nat.lt_or_ge u (sz) with q9 | q9
          · exact absurd c9 (nI_ge q9 hsz)
          · omega
        refine lv_aload_n hx hb dX4_removeAllOf_46 rfl (lv_at hl 0 rfl) ?_
        refine lv_iload_n hx hb dX4_removeAllOf_47 rfl (lv_at hl 2 rfl) ?_
        refine db_put hx hb hts hown hK hS 4 0 (bb_k 4 rfl) rfl db_c4 1 (by decide) wd_132 rfl rfl rfl (Nat.le_of_ble_eq_true rfl) rfl dX4_removeAllOf_48 (fun H locs hS => ?_)
        obtain ⟨X1, eX1⟩ : ∃ z, z = db_up Xa 4 0 1 (nI v) := ⟨_, rfl⟩
        rw [← eX1] at hS
        exact hret _ _ _ _ _ hS (by rw [bb_rmA, hrem, hu, Nat.sub_self, eX1]; rfl) dX4_removeAllOf_51
      · have hu : u < sz := by
          rcases Nat.lt_or_ge u (sz) with q9 | q9
          · exact q9
          · exact absurd (nI_le q9 (by omega)) c9
        have hlk : db_in (bb_sec Xa u 2) (N 1) := (hIa.2.2.2.2 u hu).2
        refine lv_aload_n hx hb dX4_removeAllOf_12 rfl (lv_at hl 0 rfl) ?_
        refine db_get hx hb hts hown hK hS 4 0 (bb_k 4 rfl) rfl db_c4 0 (by decide) wd_130 rfl dX4_removeAllOf_13 ?_
        refine lv_iload_n hx hb dX4_removeAllOf_16 rfl (lv_at hl 3 rfl) ?_
        refine db_ald hx hb hK hS 5 0 (bb_k 5 rfl) 3 rfl rfl u rfl (Nat.lt_of_lt_of_le hu hIa.2.2.2.1) hn2 (bb_rowf (hIa.2.2.2.2 u hu).1 hcn) dX4_removeAllOf_17 ?_
        refine db_getN hx hb hts hown hK hS 12 ((Xa 5 0 u).toNatClampNeg) (bb_kS ((hIa.2.2.2.2 u hu).1.lt hcn)) rfl db_c3 0 (by decide) wn_224 rfl dX4_removeAllOf_18 ?_
        refine lv_iload_n hx hb dX4_removeAllOf_21 rfl (lv_at hl 1 rfl) ?_
        refine lv_icmp_eq (tgt := 40) hx hb dX4_removeAllOf_22 (by decide) (fun c22 => ?_) (fun c22 => ?_)
        · have c22 : bb_sec Xa u 0 = t := c22
          refine lv_iinc (v := (nI (u + 1))) (lv' := [(3, .int (nI (u + 1))), (0, .ref (L 4 0)), (1, .int t), (2, .int (nI v))]) hx hb dX4_removeAllOf_40 hl (k := 3) rfl (nI_1 _) (by decide) rfl (fun ls hl => ?_)
          refine lv_goto (tgt := 4) hx hb dX4_removeAllOf_43 (by decide) ?_
          exact ih4 (u + 1) v Xa (by omega) hu (by omega) hIa (by rw [hrem, show sz - u = (sz - (u + 1)) + 1 by omega, bb_rmF, if_pos c22]) _ _ hS _ (lv_sub hl [1, 2, 3, 0] rfl)
        · have c22 : ¬ bb_sec Xa u 0 = t := c22
          refine lv_aload_n hx hb dX4_removeAllOf_25 rfl (lv_at hl 0 rfl) ?_
          refine db_get hx hb hts hown hK hS 4 0 (bb_k 4 rfl) rfl db_c4 0 (by decide) wd_130 rfl dX4_removeAllOf_26 ?_
          refine lv_iload_n hx hb dX4_removeAllOf_29 rfl (lv_at hl 2 rfl) ?_
          refine lv_aload_n hx hb dX4_removeAllOf_30 rfl (lv_at hl 0 rfl) ?_
          refine db_get hx hb hts hown hK hS 4 0 (bb_k 4 rfl) rfl db_c4 0 (by decide) wd_130 rfl dX4_removeAllOf_31 ?_
          refine lv_iload_n hx hb dX4_removeAllOf_34 rfl (lv_at hl 3 rfl) ?_
          refine db_ald hx hb hK hS 5 0 (bb_k 5 rfl) 3 rfl rfl u rfl (Nat.lt_of_lt_of_le hu hIa.2.2.2.1) hn2 (bb_rowf (hIa.2.2.2.2 u hu).1 hcn) dX4_removeAllOf_35 ?_
          refine db_ast5 hx hb hK hS v rfl (by have := hIa.2.2.2.1; omega) hn2 (Xa 5 0 u) (hIa.2.2.2.2 u hu).1 hcn rfl dX4_removeAllOf_36 (fun H locs hS => ?_)
          obtain ⟨X2, eX2⟩ : ∃ z, z = db_up Xa 5 0 v (Xa 5 0 u) := ⟨_, rfl⟩
          rw [← eX2] at hS
          refine lv_iinc (v := (nI (v + 1))) (lv' := [(2, .int (nI (v + 1))), (0, .ref (L 4 0)), (1, .int t), (3, .int (nI u))]) hx hb dX4_removeAllOf_37 hl (k := 2) rfl (nI_1 _) (by decide) rfl (fun ls hl => ?_)
          refine lv_iinc (v := (nI (u + 1))) (lv' := [(3, .int (nI (u + 1))), (2, .int (nI (v + 1))), (0, .ref (L 4 0)), (1, .int t)]) hx hb dX4_removeAllOf_40 hl (k := 3) rfl (nI_1 _) (by decide) rfl (fun ls hl => ?_)
          refine lv_goto (tgt := 4) hx hb dX4_removeAllOf_43 (by decide) ?_
          exact ih4 (u + 1) (v + 1) X2 (by omega) hu (by omega) (by rw [eX2]; exact hIa.up5 (hIa.2.2.2.2 u hu).1 (hIa.2.2.2.2 u hu).2) (by rw [hrem, show sz - u = (sz - (u + 1)) + 1 by omega, bb_rmF, if_neg c22, eX2]) _ _ hS _ (lv_sub hl [2, 3, 1, 0] rfl)
  exact K4 _ 0 0 X (Nat.le_refl _) (Nat.zero_le _) (Nat.le_refl _) hI rfl _ _ hS _ (lv_sub hl [2, 3, 1, 0] rfl)

theorem bb_remove01 {N : Nat → Nat} {X : db_X} {sz : Nat} {t : Int32} : (bb_remove N X sz t).1 = 0 ∨ (bb_remove N X sz t).1 = 1 := by
  unfold bb_remove
  split
  · exact Or.inl rfl
  · exact Or.inr rfl

set_option maxHeartbeats 4000000 in
set_option maxRecDepth 100000 in
theorem c_X6_removeTask (l : Launch) (Γ : db_G) (N : Nat → Nat) (L : Nat → Nat → Nat) (cnt : Nat) (X : db_X) (hN : bb_N N) (t : Int32) (sz : Nat) (hI : bb_I N cnt sz X) (hcn : cnt < 2 ^ 31) : db_C l Γ yX6_removeTask cX6_removeTask 2 (some .boolean) (db_rm 4 93) [.ref (L 0 0), .int t] L (bb_ok (N 0) cnt) (bb_cel Γ N L) X (some (.int ((bb_remove N X sz t).1))) ((bb_remove N X sz t).2) := by
  have hn0 : N 0 < 2 ^ 31 := by have := hN.2.1; omega
  have hn1 : N 1 < 2 ^ 31 := by have := hN.2.2.1; omega
  have hn2 : N 2 < 2 ^ 31 := by have := hN.2.2.2.1; omega
  have hn3 : N 3 < 2 ^ 31 := by have := hN.2.2.2.2; omega
  refine db_introZ (by decide +kernel) (Nat.le_of_ble_eq_true rfl) bb_remove01 ?_
  intro p e s m args below meth c A Q ls hC hS hl hret
  have hC : db_Cx p s m args meth c Γ RX6 cX6_removeTask 2 (some .boolean) := hC
  obtain ⟨hx, hb, hml, hr, hlocks, hown, hts, hK⟩ := id hC
  have hl : lv_has ls 2 [(0, .ref (L 0 0)), (1, .int t)] := hl
  refine lv_aload_n hx hb dX6_removeTask_0 rfl (lv_at hl 0 rfl) ?_
  refine lv_iload_n hx hb dX6_removeTask_1 rfl (lv_at hl 1 rfl) ?_
  refine db_cV (As := [.int t]) (rest := []) (st1 := [.int (bb_isLive N X t)]) hC hS 0 0 (bb_k 0 rfl) rfl db_c6 (c_X6_isLive l Γ N L cnt X hN t ) (cw_X6_isLive (Nat.le_of_ble_eq_true rfl) (Nat.le_of_ble_eq_true rfl)) wd_209 wd_211 ws_1 rfl hl.1 rfl (Nat.le_of_ble_eq_true rfl) dX6_removeTask_2 ⟨Nat.le_of_ble_eq_true rfl, Nat.le_of_ble_eq_true rfl⟩ rfl (fun H locs hS => ?_)
  refine lv_if_ne (tgt := 10) hx hb dX6_removeTask_5 (by decide) (fun c5 => ?_) (fun c5 => ?_)
  · obtain ⟨j, hj, rfl⟩ := bb_isLive_ix hn0 c5
    refine lv_aload_n hx hb dX6_removeTask_10 rfl (lv_at hl 0 rfl) ?_
    refine db_get hx hb hts hown hK hS 0 0 (bb_k 0 rfl) rfl db_c6 0 (by decide) wd_172 rfl dX6_removeTask_11 ?_
    refine lv_iload_n hx hb dX6_removeTask_14 rfl (lv_at hl 1 rfl) ?_
    refine db_ald hx hb hK hS 11 0 (bb_k 11 rfl) 2 rfl rfl j rfl hj hn0 rfl dX6_removeTask_15 ?_
    refine lv_iconst (v := 0) hx hb dX6_removeTask_16 (by decide) ?_
    refine db_putN hx hb hts hown hK hS 1 j (bb_kT hj) rfl db_c5 1 (by decide) wn_73 rfl (db_nz (Or.inl rfl)) (db_fz (Or.inl rfl)) (Nat.le_of_ble_eq_true rfl) rfl dX6_removeTask_17 (fun H locs hS => ?_)
    obtain ⟨X1, eX1⟩ : ∃ z, z = db_up X 1 j 1 0 := ⟨_, rfl⟩
    rw [← eX1] at hS
    have hI1 : bb_I N cnt sz X1 := by rw [eX1]; exact hI.up rfl
    refine lv_aload_n hx hb dX6_removeTask_20 rfl (lv_at hl 0 rfl) ?_
    refine lv_iload_n hx hb dX6_removeTask_21 rfl (lv_at hl 1 rfl) ?_
    refine db_cV (As := [.int (nI j)]) (rest := []) (st1 := []) hC hS 0 0 (bb_k 0 rfl) rfl db_c6 (c_X6_dropJob l Γ N L cnt X1 hN sz j hI1 hj) (cw_X6_dropJob (Nat.le_of_ble_eq_true rfl) (Nat.le_of_ble_eq_true rfl)) wd_268 wd_270 ws_8 rfl hl.1 rfl (Nat.le_of_ble_eq_true rfl) dX6_removeTask_22 ⟨Nat.le_of_ble_eq_true rfl, Nat.le_of_ble_eq_true rfl⟩ rfl (fun H locs hS => ?_)
    obtain ⟨X2, eX2⟩ : ∃ z, z = bb_drop N X1 j := ⟨_, rfl⟩
    rw [← eX2] at hS
    have hI2 : bb_I N cnt sz X2 := by rw [eX2]; exact hI1.drop
    refine lv_aload_n hx hb dX6_removeTask_25 rfl (lv_at hl 0 rfl) ?_
    refine db_get hx hb hts hown hK hS 0 0 (bb_k 0 rfl) rfl db_c6 2 (by decide) wd_174 rfl dX6_removeTask_26 ?_
    refine lv_iload_n hx hb dX6_removeTask_29 rfl (lv_at hl 1 rfl) ?_
    refine db_cVN (As := [.int (nI j)]) (rest := []) (st1 := []) hC hS 4 0 (bb_k 4 rfl) rfl db_c4 (c_X4_removeAllOf l Γ N L cnt X2 hN (nI j) sz hI2 hcn) (cw_X4_removeAllOf (Nat.le_of_ble_eq_true rfl) (Nat.le_of_ble_eq_true rfl)) wn_288 wd_290 ws_13 rfl hl.1 rfl (Nat.le_of_ble_eq_true rfl) dX6_removeTask_30 ⟨Nat.le_of_ble_eq_true rfl, Nat.le_of_ble_eq_true rfl⟩ rfl (fun H locs hS => ?_)
    obtain ⟨X3, eX3⟩ : ∃ z, z = bb_rmA X2 sz (nI j) := ⟨_, rfl⟩
    rw [← eX3] at hS
    refine lv_iconst (v := 1) hx hb dX6_removeTask_33 (by decide) ?_
    exact hret _ _ _ _ _ _ hS (by rw [bb_remove, if_neg c5]) (by rw [bb_remove, if_neg c5, db_nIc hj hn0, eX3, eX2, eX1]) dX6_removeTask_34
  · refine lv_iconst (v := 0) hx hb dX6_removeTask_8 (by decide) ?_
    exact hret _ _ _ _ _ _ hS (by rw [bb_remove, if_pos c5]) (by rw [bb_remove, if_pos c5]) dX6_removeTask_9

set_option maxHeartbeats 4000000 in
set_option maxRecDepth 100000 in
theorem c_X6_demandAt (l : Launch) (Γ : db_G) (N : Nat → Nat) (L : Nat → Nat → Nat) (cnt : Nat) (X : db_X) (hN : bb_N N) (t : Int32) : db_C l Γ yX6_demandAt cX6_demandAt 10 (some .long) (db_rm 0 0) [.ref (L 0 0), .int t] L (bb_ok (N 0) cnt) (bb_cel Γ N L) X (some (.long (bb_dem X t (N 0)))) X := by
  have hn0 : N 0 < 2 ^ 31 := by have := hN.2.1; omega
  have hn1 : N 1 < 2 ^ 31 := by have := hN.2.2.1; omega
  have hn2 : N 2 < 2 ^ 31 := by have := hN.2.2.2.1; omega
  have hn3 : N 3 < 2 ^ 31 := by have := hN.2.2.2.2; omega
  refine db_introL (by decide +kernel) (Nat.le_of_ble_eq_true rfl) ?_
  intro p e s m args below meth c A Q ls hC hS hl hret
  have hC : db_Cx p s m args meth c Γ RX6 cX6_demandAt 10 (some .long) := hC
  obtain ⟨hx, hb, hml, hr, hlocks, hown, hts, hK⟩ := id hC
  have hl : lv_has ls 10 [(0, .ref (L 0 0)), (1, .int t)] := hl
  refine lv_lconst (v := 0) hx hb dX6_demandAt_0 (by decide) ?_
  refine lv_lstore_n (lv' := [(2, .long 0), (0, .ref (L 0 0)), (1, .int t)]) hx hb dX6_demandAt_1 rfl hl (by decide) rfl (fun ls hl => ?_)
  refine lv_aload_n hx hb dX6_demandAt_2 rfl (lv_at hl 1 rfl) ?_
  refine db_get hx hb hts hown hK hS 0 0 (bb_k 0 rfl) rfl db_c6 0 (by decide) wd_172 rfl dX6_demandAt_3 ?_
  refine lv_astore (lv' := [(4, .ref (L 11 0)), (2, .long 0), (0, .ref (L 0 0)), (1, .int t)]) hx hb dX6_demandAt_6 hl (by decide) rfl (fun ls hl => ?_)
  refine lv_aload hx hb dX6_demandAt_8 (lv_at hl 0 rfl) ?_
  refine db_alen hx hb hK hS 11 0 (bb_k 11 rfl) 2 rfl rfl dX6_demandAt_10 ?_
  refine lv_istore (lv' := [(5, .int (nI (N 0))), (4, .ref (L 11 0)), (2, .long 0), (0, .ref (L 0 0)), (1, .int t)]) hx hb dX6_demandAt_11 hl (by decide) rfl (fun ls hl => ?_)
  refine lv_iconst (v := 0) hx hb dX6_demandAt_13 (by decide) ?_
  refine lv_istore (lv' := [(6, .int 0), (5, .int (nI (N 0))), (4, .ref (L 11 0)), (2, .long 0), (0, .ref (L 0 0)), (1, .int t)]) hx hb dX6_demandAt_14 hl (by decide) rfl (fun ls hl => ?_)
  have K16 : ∀ (q : Nat) (j : Nat) (acc : Int64) (hq : N 0 + 1 - j ≤ q) (hj0 : j ≤ N 0) (hacc : acc = bb_dem X t j) (H : Heap) (locs : List Loc) (hS : db_S Γ A s.heap L (bb_ok (N 0) cnt) (bb_cel Γ N L) X H locs) (ls : Array Slot) (hl : lv_has ls 10 [(0, .ref (L 0 0)), (1, .int t), (2, .long acc), (4, .ref (L 11 0)), (5, .int (nI (N 0))), (6, .int (nI j))]), W p l e (db_rm 0 0) s m args below meth c H locs 0 0 Q (F0 m 16 ls []) := by
    intro q16
    induction q16 with
    | zero =>
      intro j acc hq16 hj0 hacc
      exact absurd hq16 (by omega)
    | succ q16 ih16 =>
      intro j acc hq16 hj0 hacc H locs hS ls hl
      refine lv_iload hx hb dX6_demandAt_16 (lv_at hl 5 rfl) ?_
      refine lv_iload hx hb dX6_demandAt_18 (lv_at hl 4 rfl) ?_
      refine lv_icmp_ge (tgt := 91) hx hb dX6_demandAt_20 (by decide) (fun c20 => ?_) (fun c20 => ?_)
      · have hj : j = N 0 := by
          rcases Nat.lt_or_ge j (N 0) with q9 | q9
          · exact absurd c20 (nI_ge q9 hn0)
          · omega
        refine lv_lload_n hx hb dX6_demandAt_91 rfl (lv_at hl 2 rfl) ?_
        exact hret _ _ _ _ _ _ hS (by rw [hacc, hj]) (rfl) dX6_demandAt_92
      · have hj : j < N 0 := by
          rcases Nat.lt_or_ge j (N 0) with q9 | q9
          · exact q9
          · exact absurd (nI_le q9 (by omega)) c20
        refine lv_aload hx hb dX6_demandAt_23 (lv_at hl 3 rfl) ?_
        refine lv_iload hx hb dX6_demandAt_25 (lv_at hl 5 rfl) ?_
        refine db_ald hx hb hK hS 11 0 (bb_k 11 rfl) 2 rfl rfl j rfl hj hn0 rfl dX6_demandAt_27 ?_
        refine lv_astore (lv' := [(7, .ref (L 1 j)), (0, .ref (L 0 0)), (1, .int t), (2, .long acc), (4, .ref (L 11 0)), (5, .int (nI (N 0))), (6, .int (nI j))]) hx hb dX6_demandAt_28 hl (by decide) rfl (fun ls hl => ?_)
        refine lv_aload hx hb dX6_demandAt_30 (lv_at hl 0 rfl) ?_
        refine db_getN hx hb hts hown hK hS 1 j (bb_kT hj) rfl db_c5 1 (by decide) wn_73 rfl dX6_demandAt_32 ?_
        refine lv_if_eq (tgt := 85) hx hb dX6_demandAt_35 (by decide) (fun c35 => ?_) (fun c35 => ?_)
        · refine lv_iinc (v := (nI (j + 1))) (lv' := [(6, .int (nI (j + 1))), (7, .ref (L 1 j)), (0, .ref (L 0 0)), (1, .int t), (2, .long acc), (4, .ref (L 11 0)), (5, .int (nI (N 0)))]) hx hb dX6_demandAt_85 hl (k := 6) rfl (nI_1 _) (by decide) rfl (fun ls hl => ?_)
          refine lv_goto (tgt := 16) hx hb dX6_demandAt_88 (by decide) ?_
          exact ih16 (j + 1) acc (by omega) hj (by rw [bb_dem, ← hacc, if_pos c35]) _ _ hS _ (lv_sub hl [2, 3, 4, 5, 6, 0] rfl)
        · refine lv_aload hx hb dX6_demandAt_38 (lv_at hl 0 rfl) ?_
          refine db_getN hx hb hts hown hK hS 1 j (bb_kT hj) rfl db_c5 4 (by decide) wn_79 rfl dX6_demandAt_40 ?_
          refine lv_iload_n hx hb dX6_demandAt_43 rfl (lv_at hl 2 rfl) ?_
          refine lv_icmp_gt (tgt := 85) hx hb dX6_demandAt_44 (by decide) (fun c44 => ?_) (fun c44 => ?_)
          · refine lv_iinc (v := (nI (j + 1))) (lv' := [(6, .int (nI (j + 1))), (7, .ref (L 1 j)), (0, .ref (L 0 0)), (1, .int t), (2, .long acc), (4, .ref (L 11 0)), (5, .int (nI (N 0)))]) hx hb dX6_demandAt_85 hl (k := 6) rfl (nI_1 _) (by decide) rfl (fun ls hl => ?_)
            refine lv_goto (tgt := 16) hx hb dX6_demandAt_88 (by decide) ?_
            exact ih16 (j + 1) acc (by omega) hj (by rw [bb_dem, ← hacc, if_neg c35, if_pos c44]) _ _ hS _ (lv_sub hl [2, 3, 4, 5, 6, 0] rfl)
          · refine lv_aload hx hb dX6_demandAt_47 (lv_at hl 0 rfl) ?_
            refine db_getN hx hb hts hown hK hS 1 j (bb_kT hj) rfl db_c5 2 (by decide) wn_75 rfl dX6_demandAt_49 ?_
            refine lv_if_le (tgt := 85) hx hb dX6_demandAt_52 (by decide) (fun c52 => ?_) (fun c52 => ?_)
            · refine lv_iinc (v := (nI (j + 1))) (lv' := [(6, .int (nI (j + 1))), (7, .ref (L 1 j)), (0, .ref (L 0 0)), (1, .int t), (2, .long acc), (4, .ref (L 11 0)), (5, .int (nI (N 0)))]) hx hb dX6_demandAt_85 hl (k := 6) rfl (nI_1 _) (by decide) rfl (fun ls hl => ?_)
              refine lv_goto (tgt := 16) hx hb dX6_demandAt_88 (by decide) ?_
              exact ih16 (j + 1) acc (by omega) hj (by rw [bb_dem, ← hacc, if_neg c35, if_neg c44, if_pos c52]) _ _ hS _ (lv_sub hl [2, 3, 4, 5, 6, 0] rfl)
            · refine lv_iconst (v := 1) hx hb dX6_demandAt_55 (by decide) ?_
              refine lv_iload_n hx hb dX6_demandAt_56 rfl (lv_at hl 2 rfl) ?_
              refine lv_aload hx hb dX6_demandAt_57 (lv_at hl 0 rfl) ?_
              refine db_getN hx hb hts hown hK hS 1 j (bb_kT hj) rfl db_c5 4 (by decide) wn_79 rfl dX6_demandAt_59 ?_
              refine lv_isub hx hb dX6_demandAt_62 ?_
              refine lv_aload hx hb dX6_demandAt_63 (lv_at hl 0 rfl) ?_
              refine db_getN hx hb hts hown hK hS 1 j (bb_kT hj) rfl db_c5 2 (by decide) wn_75 rfl dX6_demandAt_65 ?_
              refine lv_idiv hx hb dX6_demandAt_68 (fun q => c52 (by rw [q]; decide)) ?_
              refine lv_iadd hx hb dX6_demandAt_69 ?_
              refine lv_i2l hx hb dX6_demandAt_70 rfl ?_
              refine lv_lstore (lv' := [(8, .long ((1 + ((t - (X 1 j 4)) / (X 1 j 2))).toInt64)), (7, .ref (L 1 j)), (0, .ref (L 0 0)), (1, .int t), (2, .long acc), (4, .ref (L 11 0)), (5, .int (nI (N 0))), (6, .int (nI j))]) hx hb dX6_demandAt_71 hl (by decide) rfl (fun ls hl => ?_)
              refine lv_lload_n hx hb dX6_demandAt_73 rfl (lv_at hl 4 rfl) ?_
              refine lv_aload hx hb dX6_demandAt_74 (lv_at hl 1 rfl) ?_
              refine db_getN hx hb hts hown hK hS 1 j (bb_kT hj) rfl db_c5 3 (by decide) wn_77 rfl dX6_demandAt_76 ?_
              refine lv_i2l hx hb dX6_demandAt_79 rfl ?_
              refine lv_lload hx hb dX6_demandAt_80 (lv_at hl 0 rfl) ?_
              refine lv_lmul hx hb dX6_demandAt_82 ?_
              refine lv_ladd hx hb dX6_demandAt_83 ?_
              refine lv_lstore_n (lv' := [(2, .long (acc + (((X 1 j 3).toInt64) * ((1 + ((t - (X 1 j 4)) / (X 1 j 2))).toInt64)))), (8, .long ((1 + ((t - (X 1 j 4)) / (X 1 j 2))).toInt64)), (7, .ref (L 1 j)), (0, .ref (L 0 0)), (1, .int t), (4, .ref (L 11 0)), (5, .int (nI (N 0))), (6, .int (nI j))]) hx hb dX6_demandAt_84 rfl hl (by decide) rfl (fun ls hl => ?_)
              refine lv_iinc (v := (nI (j + 1))) (lv' := [(6, .int (nI (j + 1))), (2, .long (acc + (((X 1 j 3).toInt64) * ((1 + ((t - (X 1 j 4)) / (X 1 j 2))).toInt64)))), (8, .long ((1 + ((t - (X 1 j 4)) / (X 1 j 2))).toInt64)), (7, .ref (L 1 j)), (0, .ref (L 0 0)), (1, .int t), (4, .ref (L 11 0)), (5, .int (nI (N 0)))]) hx hb dX6_demandAt_85 hl (k := 7) rfl (nI_1 _) (by decide) rfl (fun ls hl => ?_)
              refine lv_goto (tgt := 16) hx hb dX6_demandAt_88 (by decide) ?_
              exact ih16 (j + 1) (acc + (((X 1 j 3).toInt64) * ((1 + ((t - (X 1 j 4)) / (X 1 j 2))).toInt64))) (by omega) hj (by rw [bb_dem, ← hacc, if_neg c35, if_neg c44, if_neg c52]) _ _ hS _ (lv_sub hl [4, 5, 1, 6, 7, 0] rfl)
  exact K16 _ 0 0 (Nat.le_refl _) (Nat.zero_le _) rfl _ _ hS _ (lv_sub hl [4, 5, 3, 2, 1, 0] rfl)
