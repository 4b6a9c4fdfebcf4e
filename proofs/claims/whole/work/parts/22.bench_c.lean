theorem c_X6_holderAwaitedBy' (l : Launch) (Γ : db_G) (N : Nat → Nat) (L : Nat → Nat → Nat) (cnt : Nat) (X : db_X) (hN : bb_N N) (t : Int32) (hW : bb_W N X) (ht : db_in t (N 0)) : db_C l Γ yX6_holderAwaitedBy cX6_holderAwaitedBy 3 (some .int) (db_rm 0 0) [.ref (L 0 0), .int t] L (bb_ok (N 0) cnt) (bb_cel Γ N L) X (some (.int (bb_hab X t.toNatClampNeg))) X := by
  have hn0 : N 0 < 2 ^ 31 := by have := hN.2.1; omega
  have h := c_X6_holderAwaitedBy l Γ N L cnt X hN t.toNatClampNeg hW (ht.lt hn0)
  rw [← ht.eq hn0] at h
  exact h

theorem bb_ch_none (due : Int32) : ∀ (k : Nat) (X : db_X), bb_ch due k (-1) X = X
  | 0, _ => rfl
  | _ + 1, _ => by rw [bb_ch, if_pos rfl]

set_option maxHeartbeats 4000000 in
set_option maxRecDepth 100000 in
theorem c_X6_inheritDeadlines (l : Launch) (Γ : db_G) (N : Nat → Nat) (L : Nat → Nat → Nat) (cnt : Nat) (X : db_X) (hN : bb_N N) (sz : Nat) (hI : bb_I N cnt sz X) : db_C l Γ yX6_inheritDeadlines cX6_inheritDeadlines 6 (none) (db_rm 1 24) [.ref (L 0 0)] L (bb_ok (N 0) cnt) (bb_cel Γ N L) X none (bb_inh N X) := by
  have hn0 : N 0 < 2 ^ 31 := by have := hN.2.1; omega
  have hn1 : N 1 < 2 ^ 31 := by have := hN.2.2.1; omega
  have hn2 : N 2 < 2 ^ 31 := by have := hN.2.2.2.1; omega
  have hn3 : N 3 < 2 ^ 31 := by have := hN.2.2.2.2; omega
  refine db_introV (by decide +kernel) (Nat.le_of_ble_eq_true rfl) ?_
  intro p e s m args below meth c A Q ls hC hS hl hret
  have hC : db_Cx p s m args meth c Γ RX6 cX6_inheritDeadlines 6 (none) := hC
  obtain ⟨hx, hb, hml, hr, hlocks, hown, hts, hK⟩ := id hC
  have hl : lv_has ls 6 [(0, .ref (L 0 0))] := hl
  refine lv_aload_n hx hb dX6_inheritDeadlines_0 rfl (lv_at hl 0 rfl) ?_
  refine db_get hx hb hts hown hK hS 0 0 (bb_k 0 rfl) rfl db_c6 0 (by decide) wd_172 rfl dX6_inheritDeadlines_1 ?_
  refine lv_astore_n (lv' := [(1, .ref (L 11 0)), (0, .ref (L 0 0))]) hx hb dX6_inheritDeadlines_4 rfl hl (by decide) rfl (fun ls hl => ?_)
  refine lv_aload_n hx hb dX6_inheritDeadlines_5 rfl (lv_at hl 0 rfl) ?_
  refine db_alen hx hb hK hS 11 0 (bb_k 11 rfl) 2 rfl rfl dX6_inheritDeadlines_6 ?_
  refine lv_istore_n (lv' := [(2, .int (nI (N 0))), (1, .ref (L 11 0)), (0, .ref (L 0 0))]) hx hb dX6_inheritDeadlines_7 rfl hl (by decide) rfl (fun ls hl => ?_)
  refine lv_iconst (v := 0) hx hb dX6_inheritDeadlines_8 (by decide) ?_
  refine lv_istore_n (lv' := [(3, .int 0), (2, .int (nI (N 0))), (1, .ref (L 11 0)), (0, .ref (L 0 0))]) hx hb dX6_inheritDeadlines_9 rfl hl (by decide) rfl (fun ls hl => ?_)
  have K10 : ∀ (q : Nat) (j : Nat) (Xa : db_X) (hq : N 0 + 1 - j ≤ q) (hj0 : j ≤ N 0) (eXa : Xa = bb_in1 X j) (H : Heap) (locs : List Loc) (hS : db_S Γ A s.heap L (bb_ok (N 0) cnt) (bb_cel Γ N L) Xa H locs) (ls : Array Slot) (hl : lv_has ls 6 [(0, .ref (L 0 0)), (1, .ref (L 11 0)), (2, .int (nI (N 0))), (3, .int (nI j))]), W p l e (db_rm 1 24) s m args below meth c H locs 0 0 Q (F0 m 10 ls []) := by
    intro q10
    induction q10 with
    | zero =>
      intro j Xa hq10 hj0 eXa
      exact absurd hq10 (by omega)
    | succ q10 ih10 =>
      intro j Xa hq10 hj0 eXa H locs hS ls hl
      refine lv_iload_n hx hb dX6_inheritDeadlines_10 rfl (lv_at hl 3 rfl) ?_
      refine lv_iload_n hx hb dX6_inheritDeadlines_11 rfl (lv_at hl 2 rfl) ?_
      refine lv_icmp_ge (tgt := 42) hx hb dX6_inheritDeadlines_12 (by decide) (fun c12 => ?_) (fun c12 => ?_)
      · have hj : j = N 0 := by
          rcases Nat.lt_or_ge j (N 0) with q9 | q9
          · exact absurd c12 (nI_ge q9 hn0)
          · omega
        refine lv_iconst (v := 0) hx hb dX6_inheritDeadlines_42 (by decide) ?_
        refine lv_istore_n (lv' := [(1, .int 0), (0, .ref (L 0 0)), (2, .int (nI (N 0))), (3, .int (nI j))]) hx hb dX6_inheritDeadlines_43 rfl hl (by decide) rfl (fun ls hl => ?_)
        have K44 : ∀ (q : Nat) (i : Nat) (Xb : db_X) (hq : N 0 + 1 - i ≤ q) (hi0 : i ≤ N 0) (eXb : Xb = bb_in2 N (bb_in1 X (N 0)) i) (H : Heap) (locs : List Loc) (hS : db_S Γ A s.heap L (bb_ok (N 0) cnt) (bb_cel Γ N L) Xb H locs) (ls : Array Slot) (hl : lv_has ls 6 [(0, .ref (L 0 0)), (1, .int (nI i))]), W p l e (db_rm 1 24) s m args below meth c H locs 0 0 Q (F0 m 44 ls []) := by
          intro q44
          induction q44 with
          | zero =>
            intro i Xb hq44 hi0 eXb
            exact absurd hq44 (by omega)
          | succ q44 ih44 =>
            intro i Xb hq44 hi0 eXb H locs hS ls hl
            have h5b : bb_s5 Xb X := by rw [eXb]; exact (bb_in2_s5 _).tr (bb_in1_s5 _)
            have hWb : bb_W N Xb := h5b.W hI.1
            have hOb : bb_O N Xb := h5b.O hI.2.1
            refine lv_iload_n hx hb dX6_inheritDeadlines_44 rfl (lv_at hl 1 rfl) ?_
            refine lv_aload_n hx hb dX6_inheritDeadlines_45 rfl (lv_at hl 0 rfl) ?_
            refine db_get hx hb hts hown hK hS 0 0 (bb_k 0 rfl) rfl db_c6 0 (by decide) wd_172 rfl dX6_inheritDeadlines_46 ?_
            refine db_alen hx hb hK hS 11 0 (bb_k 11 rfl) 2 rfl rfl dX6_inheritDeadlines_49 ?_
            refine lv_icmp_ge (tgt := 133) hx hb dX6_inheritDeadlines_50 (by decide) (fun c50 => ?_) (fun c50 => ?_)
            · have hi : i = N 0 := by
                rcases Nat.lt_or_ge i (N 0) with q9 | q9
                · exact absurd c50 (nI_ge q9 hn0)
                · omega
              exact hret _ _ _ _ _ hS (by rw [eXb, hi]; rfl) dX6_inheritDeadlines_133
            · have hi : i < N 0 := by
                rcases Nat.lt_or_ge i (N 0) with q9 | q9
                · exact q9
                · exact absurd (nI_le q9 (by omega)) c50
              refine lv_aload_n hx hb dX6_inheritDeadlines_53 rfl (lv_at hl 0 rfl) ?_
              refine db_get hx hb hts hown hK hS 0 0 (bb_k 0 rfl) rfl db_c6 0 (by decide) wd_172 rfl dX6_inheritDeadlines_54 ?_
              refine lv_iload_n hx hb dX6_inheritDeadlines_57 rfl (lv_at hl 1 rfl) ?_
              refine db_ald hx hb hK hS 11 0 (bb_k 11 rfl) 2 rfl rfl i rfl hi hn0 rfl dX6_inheritDeadlines_58 ?_
              refine db_getN hx hb hts hown hK hS 1 i (bb_kT hi) rfl db_c5 0 (by decide) wn_71 rfl dX6_inheritDeadlines_59 ?_
              refine db_getN hx hb hts hown hK hS 2 i (bb_kJ hi) rfl db_c0 2 (by decide) wn_47 rfl dX6_inheritDeadlines_62 ?_
              refine lv_istore_n (lv' := [(2, .int (Xb 2 i 2)), (0, .ref (L 0 0)), (1, .int (nI i))]) hx hb dX6_inheritDeadlines_65 rfl hl (by decide) rfl (fun ls hl => ?_)
              refine lv_aload_n hx hb dX6_inheritDeadlines_66 rfl (lv_at hl 1 rfl) ?_
              refine lv_iload_n hx hb dX6_inheritDeadlines_67 rfl (lv_at hl 2 rfl) ?_
              refine db_cV (As := [.int (nI i)]) (rest := []) (st1 := [.int (bb_hab Xb i)]) hC hS 0 0 (bb_k 0 rfl) rfl db_c6 (c_X6_holderAwaitedBy l Γ N L cnt Xb hN i hWb hi) (cw_X6_holderAwaitedBy (Nat.le_of_ble_eq_true rfl) (Nat.le_of_ble_eq_true rfl)) wd_280 wd_282 ws_11 rfl hl.1 rfl (Nat.le_of_ble_eq_true rfl) dX6_inheritDeadlines_68 ⟨Nat.le_of_ble_eq_true rfl, Nat.le_of_ble_eq_true rfl⟩ rfl (fun H locs hS => ?_)
              refine lv_istore_n (lv' := [(3, .int (bb_hab Xb i)), (2, .int (Xb 2 i 2)), (0, .ref (L 0 0)), (1, .int (nI i))]) hx hb dX6_inheritDeadlines_71 rfl hl (by decide) rfl (fun ls hl => ?_)
              refine lv_iconst (v := 0) hx hb dX6_inheritDeadlines_72 (by decide) ?_
              refine lv_istore (lv' := [(4, .int 0), (3, .int (bb_hab Xb i)), (2, .int (Xb 2 i 2)), (0, .ref (L 0 0)), (1, .int (nI i))]) hx hb dX6_inheritDeadlines_73 hl (by decide) rfl (fun ls hl => ?_)
              have K75 : ∀ (q : Nat) (st : Nat) (hd : Int32) (Xc : db_X) (hq : N 0 + 1 - st ≤ q) (hst0 : st ≤ N 0) (hhd : hd = -1 ∨ db_in hd (N 0)) (hsc : bb_s5 Xc Xb) (hrem : bb_ch (Xb 2 i 2) (N 0) (bb_hab Xb i) Xb = bb_ch (Xb 2 i 2) (N 0 - st) hd Xc) (H : Heap) (locs : List Loc) (hS : db_S Γ A s.heap L (bb_ok (N 0) cnt) (bb_cel Γ N L) Xc H locs) (ls : Array Slot) (hl : lv_has ls 6 [(0, .ref (L 0 0)), (1, .int (nI i)), (2, .int (Xb 2 i 2)), (3, .int hd), (4, .int (nI st))]), W p l e (db_rm 1 24) s m args below meth c H locs 0 0 Q (F0 m 75 ls []) := by
                intro q75
                induction q75 with
                | zero =>
                  intro st hd Xc hq75 hst0 hhd hsc hrem
                  exact absurd hq75 (by omega)
                | succ q75 ih75 =>
                  intro st hd Xc hq75 hst0 hhd hsc hrem H locs hS ls hl
                  refine lv_iload hx hb dX6_inheritDeadlines_75 (lv_at hl 4 rfl) ?_
                  refine lv_aload_n hx hb dX6_inheritDeadlines_77 rfl (lv_at hl 0 rfl) ?_
                  refine db_get hx hb hts hown hK hS 0 0 (bb_k 0 rfl) rfl db_c6 0 (by decide) wd_172 rfl dX6_inheritDeadlines_78 ?_
                  refine db_alen hx hb hK hS 11 0 (bb_k 11 rfl) 2 rfl rfl dX6_inheritDeadlines_81 ?_
                  refine lv_icmp_ge (tgt := 127) hx hb dX6_inheritDeadlines_82 (by decide) (fun c82 => ?_) (fun c82 => ?_)
                  · have hst : st = N 0 := by
                      rcases Nat.lt_or_ge st (N 0) with q9 | q9
                      · exact absurd c82 (nI_ge q9 hn0)
                      · omega
                    refine lv_iinc (v := (nI (i + 1))) (lv' := [(1, .int (nI (i + 1))), (0, .ref (L 0 0)), (2, .int (Xb 2 i 2)), (3, .int hd), (4, .int (nI st))]) hx hb dX6_inheritDeadlines_127 hl (k := 1) rfl (nI_1 _) (by decide) rfl (fun ls hl => ?_)
                    refine lv_goto (tgt := 44) hx hb dX6_inheritDeadlines_130 (by decide) ?_
                    exact ih44 (i + 1) Xc (by omega) hi (by rw [bb_in2, ← eXb, hrem, hst, Nat.sub_self]; rfl) _ _ hS _ (lv_sub hl [1, 0] rfl)
                  · have hst : st < N 0 := by
                      rcases Nat.lt_or_ge st (N 0) with q9 | q9
                      · exact q9
                      · exact absurd (nI_le q9 (by omega)) c82
                    refine lv_iload_n hx hb dX6_inheritDeadlines_85 rfl (lv_at hl 3 rfl) ?_
                    refine lv_iconst (v := -1) hx hb dX6_inheritDeadlines_86 (by decide) ?_
                    refine lv_icmp_eq (tgt := 127) hx hb dX6_inheritDeadlines_87 (by decide) (fun c87 => ?_) (fun c87 => ?_)
                    · refine lv_iinc (v := (nI (i + 1))) (lv' := [(1, .int (nI (i + 1))), (0, .ref (L 0 0)), (2, .int (Xb 2 i 2)), (3, .int hd), (4, .int (nI st))]) hx hb dX6_inheritDeadlines_127 hl (k := 1) rfl (nI_1 _) (by decide) rfl (fun ls hl => ?_)
                      refine lv_goto (tgt := 44) hx hb dX6_inheritDeadlines_130 (by decide) ?_
                      exact ih44 (i + 1) Xc (by omega) hi (by rw [bb_in2, ← eXb, hrem, c87]; exact (bb_ch_none _ _ _).symm) _ _ hS _ (lv_sub hl [1, 0] rfl)
                    · have hin : db_in hd (N 0) := hhd.resolve_left c87
                      refine lv_aload_n hx hb dX6_inheritDeadlines_90 rfl (lv_at hl 0 rfl) ?_
                      refine db_get hx hb hts hown hK hS 0 0 (bb_k 0 rfl) rfl db_c6 0 (by decide) wd_172 rfl dX6_inheritDeadlines_91 ?_
                      refine lv_iload_n hx hb dX6_inheritDeadlines_94 rfl (lv_at hl 3 rfl) ?_
                      refine db_ald hx hb hK hS 11 0 (bb_k 11 rfl) 2 rfl rfl hd.toNatClampNeg (hin.eq hn0) (hin.lt hn0) hn0 rfl dX6_inheritDeadlines_95 ?_
                      refine db_getN hx hb hts hown hK hS 1 hd.toNatClampNeg (bb_kT (hin.lt hn0)) rfl db_c5 0 (by decide) wn_71 rfl dX6_inheritDeadlines_96 ?_
                      refine lv_astore (lv' := [(5, .ref (L 2 hd.toNatClampNeg)), (0, .ref (L 0 0)), (1, .int (nI i)), (2, .int (Xb 2 i 2)), (3, .int hd), (4, .int (nI st))]) hx hb dX6_inheritDeadlines_99 hl (by decide) rfl (fun ls hl => ?_)
                      refine lv_aload hx hb dX6_inheritDeadlines_101 (lv_at hl 0 rfl) ?_
                      refine lv_aload hx hb dX6_inheritDeadlines_103 (lv_at hl 0 rfl) ?_
                      refine db_getN hx hb hts hown hK hS 2 hd.toNatClampNeg (bb_kJ (hin.lt hn0)) rfl db_c0 5 (by decide) wn_52 rfl dX6_inheritDeadlines_105 ?_
                      refine lv_iload_n hx hb dX6_inheritDeadlines_108 rfl (lv_at hl 3 rfl) ?_
                      refine db_mmin hC hl.1 wd_22 (by decide) (Nat.le_of_ble_eq_true rfl) dX6_inheritDeadlines_109 ?_
                      refine db_putN hx hb hts hown hK hS 2 hd.toNatClampNeg (bb_kJ (hin.lt hn0)) rfl db_c0 5 (by decide) wn_52 rfl rfl rfl (Nat.le_of_ble_eq_true rfl) rfl dX6_inheritDeadlines_112 (fun H locs hS => ?_)
                      obtain ⟨X1, eX1⟩ : ∃ z, z = db_up Xc 2 hd.toNatClampNeg 5 (if (Xb 2 i 2) < (Xc 2 hd.toNatClampNeg 5) then Xb 2 i 2 else Xc 2 hd.toNatClampNeg 5) := ⟨_, rfl⟩
                      rw [← eX1] at hS
                      have h5c : bb_s5 X1 Xb := by rw [eX1]; exact bb_s5.up.tr hsc
                      have hWc : bb_W N X1 := h5c.W hWb
                      have hOc : bb_O N X1 := h5c.O hOb
                      refine lv_aload_n hx hb dX6_inheritDeadlines_115 rfl (lv_at hl 1 rfl) ?_
                      refine lv_iload_n hx hb dX6_inheritDeadlines_116 rfl (lv_at hl 4 rfl) ?_
                      refine db_cV (As := [.int hd]) (rest := []) (st1 := [.int (bb_hab X1 hd.toNatClampNeg)]) hC hS 0 0 (bb_k 0 rfl) rfl db_c6 (c_X6_holderAwaitedBy' l Γ N L cnt X1 hN hd hWc hin) (cw_X6_holderAwaitedBy (Nat.le_of_ble_eq_true rfl) (Nat.le_of_ble_eq_true rfl)) wd_280 wd_282 ws_11 rfl hl.1 rfl (Nat.le_of_ble_eq_true rfl) dX6_inheritDeadlines_117 ⟨Nat.le_of_ble_eq_true rfl, Nat.le_of_ble_eq_true rfl⟩ rfl (fun H locs hS => ?_)
                      refine lv_istore_n (lv' := [(3, .int (bb_hab X1 hd.toNatClampNeg)), (5, .ref (L 2 hd.toNatClampNeg)), (0, .ref (L 0 0)), (1, .int (nI i)), (2, .int (Xb 2 i 2)), (4, .int (nI st))]) hx hb dX6_inheritDeadlines_120 rfl hl (by decide) rfl (fun ls hl => ?_)
                      refine lv_iinc (v := (nI (st + 1))) (lv' := [(4, .int (nI (st + 1))), (3, .int (bb_hab X1 hd.toNatClampNeg)), (5, .ref (L 2 hd.toNatClampNeg)), (0, .ref (L 0 0)), (1, .int (nI i)), (2, .int (Xb 2 i 2))]) hx hb dX6_inheritDeadlines_121 hl (k := 5) rfl (nI_1 _) (by decide) rfl (fun ls hl => ?_)
                      refine lv_goto (tgt := 75) hx hb dX6_inheritDeadlines_124 (by decide) ?_
                      exact ih75 (st + 1) (bb_hab X1 hd.toNatClampNeg) X1 (by omega) hst (bb_hab_cases hN hWc hOc (hin.lt hn0)) h5c (by rw [hrem, show N 0 - st = (N 0 - (st + 1)) + 1 by omega, bb_ch, if_neg c87, eX1]; rfl) _ _ hS _ (lv_sub hl [3, 4, 5, 1, 0] rfl)
              exact K75 _ 0 (bb_hab Xb i) Xb (Nat.le_refl _) (Nat.zero_le _) (bb_hab_cases hN hWb hOb hi) bb_s5.rf rfl _ _ hS _ (lv_sub hl [3, 4, 2, 1, 0] rfl)
        exact K44 _ 0 Xa (Nat.le_refl _) (Nat.zero_le _) (by rw [eXa, hj]; rfl) _ _ hS _ (lv_sub hl [1, 0] rfl)
      · have hj : j < N 0 := by
          rcases Nat.lt_or_ge j (N 0) with q9 | q9
          · exact q9
          · exact absurd (nI_le q9 (by omega)) c12
        refine lv_aload_n hx hb dX6_inheritDeadlines_15 rfl (lv_at hl 1 rfl) ?_
        refine lv_iload_n hx hb dX6_inheritDeadlines_16 rfl (lv_at hl 3 rfl) ?_
        refine db_ald hx hb hK hS 11 0 (bb_k 11 rfl) 2 rfl rfl j rfl hj hn0 rfl dX6_inheritDeadlines_17 ?_
        refine lv_astore (lv' := [(4, .ref (L 1 j)), (0, .ref (L 0 0)), (1, .ref (L 11 0)), (2, .int (nI (N 0))), (3, .int (nI j))]) hx hb dX6_inheritDeadlines_18 hl (by decide) rfl (fun ls hl => ?_)
        refine lv_aload hx hb dX6_inheritDeadlines_20 (lv_at hl 0 rfl) ?_
        refine db_getN hx hb hts hown hK hS 1 j (bb_kT hj) rfl db_c5 0 (by decide) wn_71 rfl dX6_inheritDeadlines_22 ?_
        refine lv_aload hx hb dX6_inheritDeadlines_25 (lv_at hl 0 rfl) ?_
        refine db_getN hx hb hts hown hK hS 1 j (bb_kT hj) rfl db_c5 0 (by decide) wn_71 rfl dX6_inheritDeadlines_27 ?_
        refine db_getN hx hb hts hown hK hS 2 j (bb_kJ hj) rfl db_c0 2 (by decide) wn_47 rfl dX6_inheritDeadlines_30 ?_
        refine db_putN hx hb hts hown hK hS 2 j (bb_kJ hj) rfl db_c0 5 (by decide) wn_52 rfl rfl rfl (Nat.le_of_ble_eq_true rfl) rfl dX6_inheritDeadlines_33 (fun H locs hS => ?_)
        obtain ⟨X2, eX2⟩ : ∃ z, z = db_up Xa 2 j 5 (Xa 2 j 2) := ⟨_, rfl⟩
        rw [← eX2] at hS
        refine lv_iinc (v := (nI (j + 1))) (lv' := [(3, .int (nI (j + 1))), (4, .ref (L 1 j)), (0, .ref (L 0 0)), (1, .ref (L 11 0)), (2, .int (nI (N 0)))]) hx hb dX6_inheritDeadlines_36 hl (k := 4) rfl (nI_1 _) (by decide) rfl (fun ls hl => ?_)
        refine lv_goto (tgt := 10) hx hb dX6_inheritDeadlines_39 (by decide) ?_
        exact ih10 (j + 1) X2 (by omega) hj (by rw [eX2, eXa]; rfl) _ _ hS _ (lv_sub hl [2, 3, 4, 0] rfl)
  exact K10 _ 0 X (Nat.le_refl _) (Nat.zero_le _) rfl _ _ hS _ (lv_sub hl [3, 2, 1, 0] rfl)

set_option maxHeartbeats 4000000 in
set_option maxRecDepth 100000 in
theorem c_X6_aheadOfAll (l : Launch) (Γ : db_G) (N : Nat → Nat) (L : Nat → Nat → Nat) (cnt : Nat) (X : db_X) (hN : bb_N N) (a : Int32) : db_C l Γ yX6_aheadOfAll cX6_aheadOfAll 5 (some .int) (db_rm 0 0) [.ref (L 0 0), .int a] L (bb_ok (N 0) cnt) (bb_cel Γ N L) X (some (.int (bb_ahead N X a))) X := by
  have hn0 : N 0 < 2 ^ 31 := by have := hN.2.1; omega
  have hn1 : N 1 < 2 ^ 31 := by have := hN.2.2.1; omega
  have hn2 : N 2 < 2 ^ 31 := by have := hN.2.2.2.1; omega
  have hn3 : N 3 < 2 ^ 31 := by have := hN.2.2.2.2; omega
  refine db_introI (by decide +kernel) (Nat.le_of_ble_eq_true rfl) ?_
  intro p e s m args below meth c A Q ls hC hS hl hret
  have hC : db_Cx p s m args meth c Γ RX6 cX6_aheadOfAll 5 (some .int) := hC
  obtain ⟨hx, hb, hml, hr, hlocks, hown, hts, hK⟩ := id hC
  have hl : lv_has ls 5 [(0, .ref (L 0 0)), (1, .int a)] := hl
  refine lv_iconst (v := -1) hx hb dX6_aheadOfAll_0 (by decide) ?_
  refine lv_istore_n (lv' := [(2, .int (-1)), (0, .ref (L 0 0)), (1, .int a)]) hx hb dX6_aheadOfAll_1 rfl hl (by decide) rfl (fun ls hl => ?_)
  refine lv_iconst (v := 0) hx hb dX6_aheadOfAll_2 (by decide) ?_
  refine lv_istore_n (lv' := [(3, .int 0), (2, .int (-1)), (0, .ref (L 0 0)), (1, .int a)]) hx hb dX6_aheadOfAll_3 rfl hl (by decide) rfl (fun ls hl => ?_)
  have K4 : ∀ (q : Nat) (j : Nat) (f : Int32) (hq : N 0 + 1 - j ≤ q) (hj0 : j ≤ N 0) (ef : f = db_ah (fun j => decide (¬ X 2 j 0 = 0 ∧ X 2 j 4 = a)) (fun j => X 2 j 5) j) (H : Heap) (locs : List Loc) (hS : db_S Γ A s.heap L (bb_ok (N 0) cnt) (bb_cel Γ N L) X H locs) (ls : Array Slot) (hl : lv_has ls 5 [(0, .ref (L 0 0)), (1, .int a), (2, .int f), (3, .int (nI j))]), W p l e (db_rm 0 0) s m args below meth c H locs 0 0 Q (F0 m 4 ls []) := by
    intro q4
    induction q4 with
    | zero =>
      intro j f hq4 hj0 ef
      exact absurd hq4 (by omega)
    | succ q4 ih4 =>
      intro j f hq4 hj0 ef H locs hS ls hl
      refine lv_iload_n hx hb dX6_aheadOfAll_4 rfl (lv_at hl 3 rfl) ?_
      refine lv_aload_n hx hb dX6_aheadOfAll_5 rfl (lv_at hl 0 rfl) ?_
      refine db_get hx hb hts hown hK hS 0 0 (bb_k 0 rfl) rfl db_c6 0 (by decide) wd_172 rfl dX6_aheadOfAll_6 ?_
      refine db_alen hx hb hK hS 11 0 (bb_k 11 rfl) 2 rfl rfl dX6_aheadOfAll_9 ?_
      refine lv_icmp_ge (tgt := 77) hx hb dX6_aheadOfAll_10 (by decide) (fun c10 => ?_) (fun c10 => ?_)
      · have hj : j = N 0 := by
          rcases Nat.lt_or_ge j (N 0) with q9 | q9
          · exact absurd c10 (nI_ge q9 hn0)
          · omega
        refine lv_iload_n hx hb dX6_aheadOfAll_77 rfl (lv_at hl 2 rfl) ?_
        exact hret _ _ _ _ _ _ hS (by rw [ef, hj]; rfl) (rfl) dX6_aheadOfAll_78
      · have hj : j < N 0 := by
          rcases Nat.lt_or_ge j (N 0) with q9 | q9
          · exact q9
          · exact absurd (nI_le q9 (by omega)) c10
        refine lv_aload_n hx hb dX6_aheadOfAll_13 rfl (lv_at hl 0 rfl) ?_
        refine db_get hx hb hts hown hK hS 0 0 (bb_k 0 rfl) rfl db_c6 0 (by decide) wd_172 rfl dX6_aheadOfAll_14 ?_
        refine lv_iload_n hx hb dX6_aheadOfAll_17 rfl (lv_at hl 3 rfl) ?_
        refine db_ald hx hb hK hS 11 0 (bb_k 11 rfl) 2 rfl rfl j rfl hj hn0 rfl dX6_aheadOfAll_18 ?_
        refine db_getN hx hb hts hown hK hS 1 j (bb_kT hj) rfl db_c5 0 (by decide) wn_71 rfl dX6_aheadOfAll_19 ?_
        refine lv_astore (lv' := [(4, .ref (L 2 j)), (0, .ref (L 0 0)), (1, .int a), (2, .int f), (3, .int (nI j))]) hx hb dX6_aheadOfAll_22 hl (by decide) rfl (fun ls hl => ?_)
        refine lv_aload hx hb dX6_aheadOfAll_24 (lv_at hl 0 rfl) ?_
        refine db_getN hx hb hts hown hK hS 2 j (bb_kJ hj) rfl db_c0 0 (by decide) wn_42 rfl dX6_aheadOfAll_26 ?_
        refine lv_if_eq (tgt := 71) hx hb dX6_aheadOfAll_29 (by decide) (fun c29 => ?_) (fun c29 => ?_)
        · refine lv_iinc (v := (nI (j + 1))) (lv' := [(3, .int (nI (j + 1))), (4, .ref (L 2 j)), (0, .ref (L 0 0)), (1, .int a), (2, .int f)]) hx hb dX6_aheadOfAll_71 hl (k := 4) rfl (nI_1 _) (by decide) rfl (fun ls hl => ?_)
          refine lv_goto (tgt := 4) hx hb dX6_aheadOfAll_74 (by decide) ?_
          exact ih4 (j + 1) f (by omega) hj (by rw [db_ah, ← ef, if_neg (by simp [c29])]) _ _ hS _ (lv_sub hl [2, 3, 4, 0] rfl)
        · refine lv_aload hx hb dX6_aheadOfAll_32 (lv_at hl 0 rfl) ?_
          refine db_getN hx hb hts hown hK hS 2 j (bb_kJ hj) rfl db_c0 4 (by decide) wn_51 rfl dX6_aheadOfAll_34 ?_
          refine lv_iload_n hx hb dX6_aheadOfAll_37 rfl (lv_at hl 2 rfl) ?_
          refine lv_icmp_eq (tgt := 44) hx hb dX6_aheadOfAll_38 (by decide) (fun c38 => ?_) (fun c38 => ?_)
          · refine lv_iload_n hx hb dX6_aheadOfAll_44 rfl (lv_at hl 3 rfl) ?_
            refine lv_iconst (v := -1) hx hb dX6_aheadOfAll_45 (by decide) ?_
            refine lv_icmp_eq (tgt := 69) hx hb dX6_aheadOfAll_46 (by decide) (fun c46 => ?_) (fun c46 => ?_)
            · refine lv_iload_n hx hb dX6_aheadOfAll_69 rfl (lv_at hl 4 rfl) ?_
              refine lv_istore_n (lv' := [(2, .int (nI j)), (4, .ref (L 2 j)), (0, .ref (L 0 0)), (1, .int a), (3, .int (nI j))]) hx hb dX6_aheadOfAll_70 rfl hl (by decide) rfl (fun ls hl => ?_)
              refine lv_iinc (v := (nI (j + 1))) (lv' := [(3, .int (nI (j + 1))), (2, .int (nI j)), (4, .ref (L 2 j)), (0, .ref (L 0 0)), (1, .int a)]) hx hb dX6_aheadOfAll_71 hl (k := 4) rfl (nI_1 _) (by decide) rfl (fun ls hl => ?_)
              refine lv_goto (tgt := 4) hx hb dX6_aheadOfAll_74 (by decide) ?_
              exact ih4 (j + 1) (nI j) (by omega) hj (by rw [db_ah, ← ef, if_pos (by simp [c29, c38]), if_pos c46]) _ _ hS _ (lv_sub hl [3, 4, 1, 0] rfl)
            · have hin : db_in f (N 0) := by
                rcases db_ah_in (sel := fun j => decide (¬ X 2 j 0 = 0 ∧ X 2 j 4 = a)) (ef := fun j => X 2 j 5) j with q9 | ⟨w, q1, q2, -⟩
                · exact absurd (ef.trans q9) c46
                · exact ⟨w, by omega, ef.trans q2⟩
              refine lv_aload hx hb dX6_aheadOfAll_49 (lv_at hl 0 rfl) ?_
              refine db_getN hx hb hts hown hK hS 2 j (bb_kJ hj) rfl db_c0 5 (by decide) wn_52 rfl dX6_aheadOfAll_51 ?_
              refine lv_aload_n hx hb dX6_aheadOfAll_54 rfl (lv_at hl 1 rfl) ?_
              refine db_get hx hb hts hown hK hS 0 0 (bb_k 0 rfl) rfl db_c6 0 (by decide) wd_172 rfl dX6_aheadOfAll_55 ?_
              refine lv_iload_n hx hb dX6_aheadOfAll_58 rfl (lv_at hl 3 rfl) ?_
              refine db_ald hx hb hK hS 11 0 (bb_k 11 rfl) 2 rfl rfl f.toNatClampNeg (hin.eq hn0) (hin.lt hn0) hn0 rfl dX6_aheadOfAll_59 ?_
              refine db_getN hx hb hts hown hK hS 1 f.toNatClampNeg (bb_kT (hin.lt hn0)) rfl db_c5 0 (by decide) wn_71 rfl dX6_aheadOfAll_60 ?_
              refine db_getN hx hb hts hown hK hS 2 f.toNatClampNeg (bb_kJ (hin.lt hn0)) rfl db_c0 5 (by decide) wn_52 rfl dX6_aheadOfAll_63 ?_
              refine lv_icmp_ge (tgt := 71) hx hb dX6_aheadOfAll_66 (by decide) (fun c66 => ?_) (fun c66 => ?_)
              · refine lv_iinc (v := (nI (j + 1))) (lv' := [(3, .int (nI (j + 1))), (4, .ref (L 2 j)), (0, .ref (L 0 0)), (1, .int a), (2, .int f)]) hx hb dX6_aheadOfAll_71 hl (k := 4) rfl (nI_1 _) (by decide) rfl (fun ls hl => ?_)
                refine lv_goto (tgt := 4) hx hb dX6_aheadOfAll_74 (by decide) ?_
                exact ih4 (j + 1) f (by omega) hj (by rw [db_ah, ← ef, if_pos (by simp [c29, c38]), if_neg c46, if_neg (Int32.not_lt.mpr c66)]) _ _ hS _ (lv_sub hl [2, 3, 4, 0] rfl)
              · refine lv_iload_n hx hb dX6_aheadOfAll_69 rfl (lv_at hl 4 rfl) ?_
                refine lv_istore_n (lv' := [(2, .int (nI j)), (4, .ref (L 2 j)), (0, .ref (L 0 0)), (1, .int a), (3, .int (nI j))]) hx hb dX6_aheadOfAll_70 rfl hl (by decide) rfl (fun ls hl => ?_)
                refine lv_iinc (v := (nI (j + 1))) (lv' := [(3, .int (nI (j + 1))), (2, .int (nI j)), (4, .ref (L 2 j)), (0, .ref (L 0 0)), (1, .int a)]) hx hb dX6_aheadOfAll_71 hl (k := 4) rfl (nI_1 _) (by decide) rfl (fun ls hl => ?_)
                refine lv_goto (tgt := 4) hx hb dX6_aheadOfAll_74 (by decide) ?_
                exact ih4 (j + 1) (nI j) (by omega) hj (by rw [db_ah, ← ef, if_pos (by simp [c29, c38]), if_neg c46, if_pos (Int32.not_le.mp c66)]) _ _ hS _ (lv_sub hl [3, 4, 1, 0] rfl)
          · refine lv_goto (tgt := 71) hx hb dX6_aheadOfAll_41 (by decide) ?_
            refine lv_iinc (v := (nI (j + 1))) (lv' := [(3, .int (nI (j + 1))), (4, .ref (L 2 j)), (0, .ref (L 0 0)), (1, .int a), (2, .int f)]) hx hb dX6_aheadOfAll_71 hl (k := 4) rfl (nI_1 _) (by decide) rfl (fun ls hl => ?_)
            refine lv_goto (tgt := 4) hx hb dX6_aheadOfAll_74 (by decide) ?_
            exact ih4 (j + 1) f (by omega) hj (by rw [db_ah, ← ef, if_neg (by simp [c38])]) _ _ hS _ (lv_sub hl [2, 3, 4, 0] rfl)
  exact K4 _ 0 (-1) (Nat.le_refl _) (Nat.zero_le _) rfl _ _ hS _ (lv_sub hl [2, 3, 1, 0] rfl)

set_option maxHeartbeats 4000000 in
set_option maxRecDepth 100000 in
theorem c_X6_letGo (l : Launch) (Γ : db_G) (N : Nat → Nat) (L : Nat → Nat → Nat) (cnt : Nat) (X : db_X) (hN : bb_N N) (sz k : Nat) (hI : bb_I N cnt sz X) (hk : k < N 1) : db_C l Γ yX6_letGo cX6_letGo 3 (none) (db_rm 2 49) [.ref (L 0 0), .int (nI k)] L (bb_ok (N 0) cnt) (bb_cel Γ N L) X none (bb_letGo N X k) := by
  have hn0 : N 0 < 2 ^ 31 := by have := hN.2.1; omega
  have hn1 : N 1 < 2 ^ 31 := by have := hN.2.2.1; omega
  have hn2 : N 2 < 2 ^ 31 := by have := hN.2.2.2.1; omega
  have hn3 : N 3 < 2 ^ 31 := by have := hN.2.2.2.2; omega
  refine db_introV (by decide +kernel) (Nat.le_of_ble_eq_true rfl) ?_
  intro p e s m args below meth c A Q ls hC hS hl hret
  have hC : db_Cx p s m args meth c Γ RX6 cX6_letGo 3 (none) := hC
  obtain ⟨hx, hb, hml, hr, hlocks, hown, hts, hK⟩ := id hC
  have hl : lv_has ls 3 [(0, .ref (L 0 0)), (1, .int (nI k))] := hl
  refine lv_aload_n hx hb dX6_letGo_0 rfl (lv_at hl 0 rfl) ?_
  refine db_get hx hb hts hown hK hS 0 0 (bb_k 0 rfl) rfl db_c6 1 (by decide) wd_173 rfl dX6_letGo_1 ?_
  refine lv_iload_n hx hb dX6_letGo_4 rfl (lv_at hl 1 rfl) ?_
  refine lv_iconst (v := -1) hx hb dX6_letGo_5 (by decide) ?_
  refine db_ist hx hb hK hS 3 0 (bb_k 3 rfl) (fun _ => rfl) k rfl hk hn1 dX6_letGo_6 (fun H locs hS => ?_)
  obtain ⟨X1, eX1⟩ : ∃ z, z = db_up X 3 0 k (-1) := ⟨_, rfl⟩
  rw [← eX1] at hS
  have hI1 : bb_I N cnt sz X1 := by rw [eX1]; exact hI.up3 (Or.inl rfl)
  refine lv_aload_n hx hb dX6_letGo_7 rfl (lv_at hl 0 rfl) ?_
  refine db_cV (As := []) (rest := []) (st1 := []) hC hS 0 0 (bb_k 0 rfl) rfl db_c6 (c_X6_inheritDeadlines l Γ N L cnt X1 hN sz hI1) (cw_X6_inheritDeadlines (Nat.le_of_ble_eq_true rfl) (Nat.le_of_ble_eq_true rfl)) wd_276 wd_278 ws_10 rfl hl.1 rfl (Nat.le_of_ble_eq_true rfl) dX6_letGo_8 ⟨Nat.le_of_ble_eq_true rfl, Nat.le_of_ble_eq_true rfl⟩ rfl (fun H locs hS => ?_)
  obtain ⟨X2, eX2⟩ : ∃ z, z = bb_inh N X1 := ⟨_, rfl⟩
  rw [← eX2] at hS
  refine lv_aload_n hx hb dX6_letGo_11 rfl (lv_at hl 0 rfl) ?_
  refine lv_iload_n hx hb dX6_letGo_12 rfl (lv_at hl 1 rfl) ?_
  refine db_cV (As := [.int (nI k)]) (rest := []) (st1 := [.int (bb_ahead N X2 (nI k))]) hC hS 0 0 (bb_k 0 rfl) rfl db_c6 (c_X6_aheadOfAll l Γ N L cnt X2 hN (nI k)) (cw_X6_aheadOfAll (Nat.le_of_ble_eq_true rfl) (Nat.le_of_ble_eq_true rfl)) wd_284 wd_286 ws_12 rfl hl.1 rfl (Nat.le_of_ble_eq_true rfl) dX6_letGo_13 ⟨Nat.le_of_ble_eq_true rfl, Nat.le_of_ble_eq_true rfl⟩ rfl (fun H locs hS => ?_)
  refine lv_istore_n (lv' := [(2, .int (bb_ahead N X2 (nI k))), (0, .ref (L 0 0)), (1, .int (nI k))]) hx hb dX6_letGo_16 rfl hl (by decide) rfl (fun ls hl => ?_)
  refine lv_iload_n hx hb dX6_letGo_17 rfl (lv_at hl 0 rfl) ?_
  refine lv_iconst (v := -1) hx hb dX6_letGo_18 (by decide) ?_
  refine lv_icmp_eq (tgt := 42) hx hb dX6_letGo_19 (by decide) (fun c19 => ?_) (fun c19 => ?_)
  · exact hret _ _ _ _ _ hS (by rw [bb_letGo, bb_lg2, eX2, eX1]; rw [if_pos (by rw [← eX1, ← eX2]; exact c19)]) dX6_letGo_42
  · have hin : db_in (bb_ahead N X2 (nI k)) (N 0) := bb_ahead_in c19
    refine lv_aload_n hx hb dX6_letGo_22 rfl (lv_at hl 1 rfl) ?_
    refine db_get hx hb hts hown hK hS 0 0 (bb_k 0 rfl) rfl db_c6 1 (by decide) wd_173 rfl dX6_letGo_23 ?_
    refine lv_iload_n hx hb dX6_letGo_26 rfl (lv_at hl 2 rfl) ?_
    refine lv_iload_n hx hb dX6_letGo_27 rfl (lv_at hl 0 rfl) ?_
    refine db_ist hx hb hK hS 3 0 (bb_k 3 rfl) (fun _ => rfl) k rfl hk hn1 dX6_letGo_28 (fun H locs hS => ?_)
    obtain ⟨X3, eX3⟩ : ∃ z, z = db_up X2 3 0 k (bb_ahead N X2 (nI k)) := ⟨_, rfl⟩
    rw [← eX3] at hS
    refine lv_aload_n hx hb dX6_letGo_29 rfl (lv_at hl 1 rfl) ?_
    refine db_get hx hb hts hown hK hS 0 0 (bb_k 0 rfl) rfl db_c6 0 (by decide) wd_172 rfl dX6_letGo_30 ?_
    refine lv_iload_n hx hb dX6_letGo_33 rfl (lv_at hl 0 rfl) ?_
    refine db_ald hx hb hK hS 11 0 (bb_k 11 rfl) 2 rfl rfl ((bb_ahead N X2 (nI k)).toNatClampNeg) (hin.eq hn0) (hin.lt hn0) hn0 rfl dX6_letGo_34 ?_
    refine db_getN hx hb hts hown hK hS 1 ((bb_ahead N X2 (nI k)).toNatClampNeg) (bb_kT (hin.lt hn0)) rfl db_c5 0 (by decide) wn_71 rfl dX6_letGo_35 ?_
    refine lv_iconst (v := -1) hx hb dX6_letGo_38 (by decide) ?_
    refine db_putN hx hb hts hown hK hS 2 ((bb_ahead N X2 (nI k)).toNatClampNeg) (bb_kJ (hin.lt hn0)) rfl db_c0 4 (by decide) wn_51 rfl rfl rfl (Nat.le_of_ble_eq_true rfl) rfl dX6_letGo_39 (fun H locs hS => ?_)
    obtain ⟨X4, eX4⟩ : ∃ z, z = db_up X3 2 ((bb_ahead N X2 (nI k)).toNatClampNeg) 4 (-1) := ⟨_, rfl⟩
    rw [← eX4] at hS
    exact hret _ _ _ _ _ hS (by rw [bb_letGo, bb_lg2, eX4, eX3, eX2, eX1]; rw [if_neg (by rw [← eX1, ← eX2]; exact c19)]; rfl) dX6_letGo_42

theorem c_X6_letGo' (l : Launch) (Γ : db_G) (N : Nat → Nat) (L : Nat → Nat → Nat) (cnt : Nat) (X : db_X) (hN : bb_N N) (t : Int32) (sz : Nat) (hI : bb_I N cnt sz X) (ht : db_in t (N 1)) : db_C l Γ yX6_letGo cX6_letGo 3 (none) (db_rm 2 49) [.ref (L 0 0), .int t] L (bb_ok (N 0) cnt) (bb_cel Γ N L) X none (bb_letGo N X t.toNatClampNeg) := by
  have hn1 : N 1 < 2 ^ 31 := by have := hN.2.2.1; omega
  have h := c_X6_letGo l Γ N L cnt X hN sz t.toNatClampNeg hI (ht.lt hn1)
  rw [← ht.eq hn1] at h
  exact h

set_option maxHeartbeats 4000000 in
set_option maxRecDepth 100000 in
theorem c_X6_dropJob (l : Launch) (Γ : db_G) (N : Nat → Nat) (L : Nat → Nat → Nat) (cnt : Nat) (X : db_X) (hN : bb_N N) (sz i : Nat) (hI : bb_I N cnt sz X) (hi : i < N 0) : db_C l Γ yX6_dropJob cX6_dropJob 3 (none) (db_rm 3 71) [.ref (L 0 0), .int (nI i)] L (bb_ok (N 0) cnt) (bb_cel Γ N L) X none (bb_drop N X i) := by
  have hn0 : N 0 < 2 ^ 31 := by have := hN.2.1; omega
  have hn1 : N 1 < 2 ^ 31 := by have := hN.2.2.1; omega
  have hn2 : N 2 < 2 ^ 31 := by have := hN.2.2.2.1; omega
  have hn3 : N 3 < 2 ^ 31 := by have := hN.2.2.2.2; omega
  refine db_introV (by decide +kernel) (Nat.le_of_ble_eq_true rfl) ?_
  intro p e s m args below meth c A Q ls hC hS hl hret
  have hC : db_Cx p s m args meth c Γ RX6 cX6_dropJob 3 (none) := hC
  obtain ⟨hx, hb, hml, hr, hlocks, hown, hts, hK⟩ := id hC
  have hl : lv_has ls 3 [(0, .ref (L 0 0)), (1, .int (nI i))] := hl
  refine lv_aload_n hx hb dX6_dropJob_0 rfl (lv_at hl 0 rfl) ?_
  refine db_get hx hb hts hown hK hS 0 0 (bb_k 0 rfl) rfl db_c6 0 (by decide) wd_172 rfl dX6_dropJob_1 ?_
  refine lv_iload_n hx hb dX6_dropJob_4 rfl (lv_at hl 1 rfl) ?_
  refine db_ald hx hb hK hS 11 0 (bb_k 11 rfl) 2 rfl rfl i rfl hi hn0 rfl dX6_dropJob_5 ?_
  refine db_getN hx hb hts hown hK hS 1 i (bb_kT hi) rfl db_c5 0 (by decide) wn_71 rfl dX6_dropJob_6 ?_
  refine lv_iconst (v := 0) hx hb dX6_dropJob_9 (by decide) ?_
  refine db_putN hx hb hts hown hK hS 2 i (bb_kJ hi) rfl db_c0 0 (by decide) wn_42 rfl (db_nz (Or.inl rfl)) (db_fz (Or.inl rfl)) (Nat.le_of_ble_eq_true rfl) rfl dX6_dropJob_10 (fun H locs hS => ?_)
  obtain ⟨X1, eX1⟩ : ∃ z, z = db_up X 2 i 0 0 := ⟨_, rfl⟩
  rw [← eX1] at hS
  refine lv_aload_n hx hb dX6_dropJob_13 rfl (lv_at hl 0 rfl) ?_
  refine db_get hx hb hts hown hK hS 0 0 (bb_k 0 rfl) rfl db_c6 0 (by decide) wd_172 rfl dX6_dropJob_14 ?_
  refine lv_iload_n hx hb dX6_dropJob_17 rfl (lv_at hl 1 rfl) ?_
  refine db_ald hx hb hK hS 11 0 (bb_k 11 rfl) 2 rfl rfl i rfl hi hn0 rfl dX6_dropJob_18 ?_
  refine db_getN hx hb hts hown hK hS 1 i (bb_kT hi) rfl db_c5 0 (by decide) wn_71 rfl dX6_dropJob_19 ?_
  refine lv_iconst (v := -1) hx hb dX6_dropJob_22 (by decide) ?_
  refine db_putN hx hb hts hown hK hS 2 i (bb_kJ hi) rfl db_c0 4 (by decide) wn_51 rfl rfl rfl (Nat.le_of_ble_eq_true rfl) rfl dX6_dropJob_23 (fun H locs hS => ?_)
  obtain ⟨X2, eX2⟩ : ∃ z, z = db_up X1 2 i 4 (-1) := ⟨_, rfl⟩
  rw [← eX2] at hS
  refine lv_iconst (v := 0) hx hb dX6_dropJob_26 (by decide) ?_
  refine lv_istore_n (lv' := [(2, .int 0), (0, .ref (L 0 0)), (1, .int (nI i))]) hx hb dX6_dropJob_27 rfl hl (by decide) rfl (fun ls hl => ?_)
  have K28 : ∀ (q : Nat) (k : Nat) (Xa : db_X) (hq : N 1 + 1 - k ≤ q) (hk0 : k ≤ N 1) (eXa : Xa = bb_dropL N (db_up (db_up X 2 i 0 0) 2 i 4 (-1)) i k) (H : Heap) (locs : List Loc) (hS : db_S Γ A s.heap L (bb_ok (N 0) cnt) (bb_cel Γ N L) Xa H locs) (ls : Array Slot) (hl : lv_has ls 3 [(0, .ref (L 0 0)), (1, .int (nI i)), (2, .int (nI k))]), W p l e (db_rm 3 71) s m args below meth c H locs 0 0 Q (F0 m 28 ls []) := by
    intro q28
    induction q28 with
    | zero =>
      intro k Xa hq28 hk0 eXa
      exact absurd hq28 (by omega)
    | succ q28 ih28 =>
      intro k Xa hq28 hk0 eXa H locs hS ls hl
      have hIa : bb_I N cnt sz Xa := by rw [eXa]; exact ((hI.up rfl).up4 (Or.inl rfl)).dropL k
      refine lv_iload_n hx hb dX6_dropJob_28 rfl (lv_at hl 2 rfl) ?_
      refine lv_aload_n hx hb dX6_dropJob_29 rfl (lv_at hl 0 rfl) ?_
      refine db_get hx hb hts hown hK hS 0 0 (bb_k 0 rfl) rfl db_c6 1 (by decide) wd_173 rfl dX6_dropJob_30 ?_
      refine db_alen hx hb hK hS 3 0 (bb_k 3 rfl) 0 rfl rfl dX6_dropJob_33 ?_
      refine lv_icmp_ge (tgt := 58) hx hb dX6_dropJob_34 (by decide) (fun c34 => ?_) (fun c34 => ?_)
      · have hk : k = N 1 := by
          rcases Nat.lt_or_ge k (N 1) with q9 | q9
          · exact absurd c34 (nI_ge q9 hn1)
          · omega
        exact hret _ _ _ _ _ hS (by rw [eXa, hk]; rfl) dX6_dropJob_58
      · have hk : k < N 1 := by
          rcases Nat.lt_or_ge k (N 1) with q9 | q9
          · exact q9
          · exact absurd (nI_le q9 (by omega)) c34
        refine lv_aload_n hx hb dX6_dropJob_37 rfl (lv_at hl 0 rfl) ?_
        refine db_get hx hb hts hown hK hS 0 0 (bb_k 0 rfl) rfl db_c6 1 (by decide) wd_173 rfl dX6_dropJob_38 ?_
        refine lv_iload_n hx hb dX6_dropJob_41 rfl (lv_at hl 2 rfl) ?_
        refine db_ild hx hb hK hS 3 0 (bb_k 3 rfl) rfl k rfl hk hn1 dX6_dropJob_42 ?_
        refine lv_iload_n hx hb dX6_dropJob_43 rfl (lv_at hl 1 rfl) ?_
        refine lv_icmp_ne (tgt := 52) hx hb dX6_dropJob_44 (by decide) (fun c44 => ?_) (fun c44 => ?_)
        · refine lv_iinc (v := (nI (k + 1))) (lv' := [(2, .int (nI (k + 1))), (0, .ref (L 0 0)), (1, .int (nI i))]) hx hb dX6_dropJob_52 hl (k := 2) rfl (nI_1 _) (by decide) rfl (fun ls hl => ?_)
          refine lv_goto (tgt := 28) hx hb dX6_dropJob_55 (by decide) ?_
          exact ih28 (k + 1) Xa (by omega) hk (by rw [bb_dropL, ← eXa, if_neg c44]) _ _ hS _ (lv_sub hl [1, 2, 0] rfl)
        · refine lv_aload_n hx hb dX6_dropJob_47 rfl (lv_at hl 0 rfl) ?_
          refine lv_iload_n hx hb dX6_dropJob_48 rfl (lv_at hl 2 rfl) ?_
          refine db_cV (As := [.int (nI k)]) (rest := []) (st1 := []) hC hS 0 0 (bb_k 0 rfl) rfl db_c6 (c_X6_letGo l Γ N L cnt Xa hN sz k hIa hk) (cw_X6_letGo (Nat.le_of_ble_eq_true rfl) (Nat.le_of_ble_eq_true rfl)) wd_272 wd_274 ws_9 rfl hl.1 rfl (Nat.le_of_ble_eq_true rfl) dX6_dropJob_49 ⟨Nat.le_of_ble_eq_true rfl, Nat.le_of_ble_eq_true rfl⟩ rfl (fun H locs hS => ?_)
          obtain ⟨X3, eX3⟩ : ∃ z, z = bb_letGo N Xa k := ⟨_, rfl⟩
          rw [← eX3] at hS
          refine lv_iinc (v := (nI (k + 1))) (lv' := [(2, .int (nI (k + 1))), (0, .ref (L 0 0)), (1, .int (nI i))]) hx hb dX6_dropJob_52 hl (k := 2) rfl (nI_1 _) (by decide) rfl (fun ls hl => ?_)
          refine lv_goto (tgt := 28) hx hb dX6_dropJob_55 (by decide) ?_
          exact ih28 (k + 1) X3 (by omega) hk (by rw [bb_dropL, ← eXa, if_pos c44, eX3]) _ _ hS _ (lv_sub hl [1, 2, 0] rfl)
  exact K28 _ 0 X2 (Nat.le_refl _) (Nat.zero_le _) (by rw [eX2, eX1]; rfl) _ _ hS _ (lv_sub hl [1, 2, 0] rfl)
