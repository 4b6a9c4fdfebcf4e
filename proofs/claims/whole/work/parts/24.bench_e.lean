set_option maxHeartbeats 4000000 in
set_option maxRecDepth 100000 in
theorem c_X6_countWaitsAndPutBys (l : Launch) (Γ : db_G) (N : Nat → Nat) (L : Nat → Nat → Nat) (cnt : Nat) (X : db_X) (hN : bb_N N) (r : Int32) : db_C l Γ yX6_countWaitsAndPutBys cX6_countWaitsAndPutBys 5 (none) (db_rm 0 0) [.ref (L 0 0), .int r] L (bb_ok (N 0) cnt) (bb_cel Γ N L) X none (bb_cw r X (N 0)) := by
  have hn0 : N 0 < 2 ^ 31 := by have := hN.2.1; omega
  have hn1 : N 1 < 2 ^ 31 := by have := hN.2.2.1; omega
  have hn2 : N 2 < 2 ^ 31 := by have := hN.2.2.2.1; omega
  have hn3 : N 3 < 2 ^ 31 := by have := hN.2.2.2.2; omega
  refine db_introV (by decide +kernel) (Nat.le_of_ble_eq_true rfl) ?_
  intro p e s m args below meth c A Q ls hC hS hl hret
  have hC : db_Cx p s m args meth c Γ RX6 cX6_countWaitsAndPutBys 5 (none) := hC
  obtain ⟨hx, hb, hml, hr, hlocks, hown, hts, hK⟩ := id hC
  have hl : lv_has ls 5 [(0, .ref (L 0 0)), (1, .int r)] := hl
  refine lv_iconst (v := 0) hx hb dX6_countWaitsAndPutBys_0 (by decide) ?_
  refine lv_istore_n (lv' := [(2, .int 0), (0, .ref (L 0 0)), (1, .int r)]) hx hb dX6_countWaitsAndPutBys_1 rfl hl (by decide) rfl (fun ls hl => ?_)
  have K2 : ∀ (q : Nat) (i : Nat) (Xa : db_X) (hq : N 0 + 1 - i ≤ q) (hi0 : i ≤ N 0) (eXa : Xa = bb_cw r X i) (H : Heap) (locs : List Loc) (hS : db_S Γ A s.heap L (bb_ok (N 0) cnt) (bb_cel Γ N L) Xa H locs) (ls : Array Slot) (hl : lv_has ls 5 [(0, .ref (L 0 0)), (1, .int r), (2, .int (nI i))]), W p l e (db_rm 0 0) s m args below meth c H locs 0 0 Q (F0 m 2 ls []) := by
    intro q2
    induction q2 with
    | zero =>
      intro i Xa hq2 hi0 eXa
      exact absurd hq2 (by omega)
    | succ q2 ih2 =>
      intro i Xa hq2 hi0 eXa H locs hS ls hl
      refine lv_iload_n hx hb dX6_countWaitsAndPutBys_2 rfl (lv_at hl 2 rfl) ?_
      refine lv_aload_n hx hb dX6_countWaitsAndPutBys_3 rfl (lv_at hl 0 rfl) ?_
      refine db_get hx hb hts hown hK hS 0 0 (bb_k 0 rfl) rfl db_c6 0 (by decide) wd_172 rfl dX6_countWaitsAndPutBys_4 ?_
      refine db_alen hx hb hK hS 11 0 (bb_k 11 rfl) 2 rfl rfl dX6_countWaitsAndPutBys_7 ?_
      refine lv_icmp_ge (tgt := 117) hx hb dX6_countWaitsAndPutBys_8 (by decide) (fun c8 => ?_) (fun c8 => ?_)
      · have hi : i = N 0 := by
          rcases Nat.lt_or_ge i (N 0) with q9 | q9
          · exact absurd c8 (nI_ge q9 hn0)
          · omega
        exact hret _ _ _ _ _ hS (by rw [eXa, hi]) dX6_countWaitsAndPutBys_117
      · have hi : i < N 0 := by
          rcases Nat.lt_or_ge i (N 0) with q9 | q9
          · exact q9
          · exact absurd (nI_le q9 (by omega)) c8
        refine lv_aload_n hx hb dX6_countWaitsAndPutBys_11 rfl (lv_at hl 0 rfl) ?_
        refine db_get hx hb hts hown hK hS 0 0 (bb_k 0 rfl) rfl db_c6 0 (by decide) wd_172 rfl dX6_countWaitsAndPutBys_12 ?_
        refine lv_iload_n hx hb dX6_countWaitsAndPutBys_15 rfl (lv_at hl 2 rfl) ?_
        refine db_ald hx hb hK hS 11 0 (bb_k 11 rfl) 2 rfl rfl i rfl hi hn0 rfl dX6_countWaitsAndPutBys_16 ?_
        refine db_getN hx hb hts hown hK hS 1 i (bb_kT hi) rfl db_c5 0 (by decide) wn_71 rfl dX6_countWaitsAndPutBys_17 ?_
        refine lv_astore_n (lv' := [(3, .ref (L 2 i)), (0, .ref (L 0 0)), (1, .int r), (2, .int (nI i))]) hx hb dX6_countWaitsAndPutBys_20 rfl hl (by decide) rfl (fun ls hl => ?_)
        have K31 : ∀ (b : Int32) (hb01 : b = 0 ∨ b = 1) (eb : b = if nI i = r then 1 else 0) (H : Heap) (locs : List Loc) (hS : db_S Γ A s.heap L (bb_ok (N 0) cnt) (bb_cel Γ N L) Xa H locs) (ls : Array Slot) (hl : lv_has ls 5 [(0, .ref (L 0 0)), (1, .int r), (2, .int (nI i)), (3, .ref (L 2 i))]), W p l e (db_rm 0 0) s m args below meth c H locs 0 0 Q (F0 m 31 ls [.int b]) := by
          intro b hb01 eb H locs hS ls hl
          refine lv_istore (lv' := [(4, .int b), (0, .ref (L 0 0)), (1, .int r), (2, .int (nI i)), (3, .ref (L 2 i))]) hx hb dX6_countWaitsAndPutBys_31 hl (by decide) rfl (fun ls hl => ?_)
          have K105 : ∀ (Xb : db_X) (h105 : bb_cw1 r Xa i = Xb) (H : Heap) (locs : List Loc) (hS : db_S Γ A s.heap L (bb_ok (N 0) cnt) (bb_cel Γ N L) Xb H locs) (ls : Array Slot) (hl : lv_has ls 5 [(0, .ref (L 0 0)), (1, .int r), (2, .int (nI i)), (3, .ref (L 2 i)), (4, .int b)]), W p l e (db_rm 0 0) s m args below meth c H locs 0 0 Q (F0 m 105 ls []) := by
            intro Xb h105 H locs hS ls hl
            refine lv_aload_n hx hb dX6_countWaitsAndPutBys_105 rfl (lv_at hl 3 rfl) ?_
            refine lv_iload hx hb dX6_countWaitsAndPutBys_106 (lv_at hl 4 rfl) ?_
            refine db_putN hx hb hts hown hK hS 2 i (bb_kJ hi) rfl db_c0 6 (by decide) wn_54 rfl (db_nz hb01) (db_fz hb01) (Nat.le_of_ble_eq_true rfl) rfl dX6_countWaitsAndPutBys_108 (fun H locs hS => ?_)
            obtain ⟨X1, eX1⟩ : ∃ z, z = db_up Xb 2 i 6 b := ⟨_, rfl⟩
            rw [← eX1] at hS
            refine lv_iinc (v := (nI (i + 1))) (lv' := [(2, .int (nI (i + 1))), (0, .ref (L 0 0)), (1, .int r), (3, .ref (L 2 i)), (4, .int b)]) hx hb dX6_countWaitsAndPutBys_111 hl (k := 2) rfl (nI_1 _) (by decide) rfl (fun ls hl => ?_)
            refine lv_goto (tgt := 2) hx hb dX6_countWaitsAndPutBys_114 (by decide) ?_
            exact ih2 (i + 1) X1 (by omega) hi (by rw [bb_cw, bb_cw2, ← eXa, h105, ← eb, eX1]) _ _ hS _ (lv_sub hl [1, 2, 0] rfl)
          have K66 : ∀ (h66 : ¬ (¬ Xa 2 i 0 = 0 ∧ ¬ Xa 2 i 4 = -1)) (H : Heap) (locs : List Loc) (hS : db_S Γ A s.heap L (bb_ok (N 0) cnt) (bb_cel Γ N L) Xa H locs) (ls : Array Slot) (hl : lv_has ls 5 [(0, .ref (L 0 0)), (1, .int r), (2, .int (nI i)), (3, .ref (L 2 i)), (4, .int b)]), W p l e (db_rm 0 0) s m args below meth c H locs 0 0 Q (F0 m 66 ls []) := by
            intro  h66 H locs hS ls hl
            refine lv_aload_n hx hb dX6_countWaitsAndPutBys_66 rfl (lv_at hl 3 rfl) ?_
            refine db_getN hx hb hts hown hK hS 2 i (bb_kJ hi) rfl db_c0 0 (by decide) wn_42 rfl dX6_countWaitsAndPutBys_67 ?_
            refine lv_if_eq (tgt := 105) hx hb dX6_countWaitsAndPutBys_70 (by decide) (fun c70 => ?_) (fun c70 => ?_)
            · exact K105 Xa (by rw [bb_cw1, if_neg h66, if_neg (fun q => q.1 c70)]) _ _ hS _ (lv_sub hl [0, 1, 2, 3, 4] rfl)
            · refine lv_aload_n hx hb dX6_countWaitsAndPutBys_73 rfl (lv_at hl 3 rfl) ?_
              refine db_getN hx hb hts hown hK hS 2 i (bb_kJ hi) rfl db_c0 6 (by decide) wn_54 rfl dX6_countWaitsAndPutBys_74 ?_
              refine lv_if_eq (tgt := 105) hx hb dX6_countWaitsAndPutBys_77 (by decide) (fun c77 => ?_) (fun c77 => ?_)
              · exact K105 Xa (by rw [bb_cw1, if_neg h66, if_neg (fun q => q.2.1 c77)]) _ _ hS _ (lv_sub hl [0, 1, 2, 3, 4] rfl)
              · refine lv_iload hx hb dX6_countWaitsAndPutBys_80 (lv_at hl 4 rfl) ?_
                refine lv_if_ne (tgt := 105) hx hb dX6_countWaitsAndPutBys_82 (by decide) (fun c82 => ?_) (fun c82 => ?_)
                · exact K105 Xa (by rw [bb_cw1, if_neg h66, if_neg (fun q => c82 (eb.trans (if_neg q.2.2.1)))]) _ _ hS _ (lv_sub hl [0, 1, 2, 3, 4] rfl)
                · refine lv_iload_n hx hb dX6_countWaitsAndPutBys_85 rfl (lv_at hl 1 rfl) ?_
                  refine lv_iconst (v := -1) hx hb dX6_countWaitsAndPutBys_86 (by decide) ?_
                  refine lv_icmp_eq (tgt := 105) hx hb dX6_countWaitsAndPutBys_87 (by decide) (fun c87 => ?_) (fun c87 => ?_)
                  · exact K105 Xa (by rw [bb_cw1, if_neg h66, if_neg (fun q => q.2.2.2 c87)]) _ _ hS _ (lv_sub hl [0, 1, 2, 3, 4] rfl)
                  · refine lv_aload_n hx hb dX6_countWaitsAndPutBys_90 rfl (lv_at hl 0 rfl) ?_
                    refine db_get hx hb hts hown hK hS 0 0 (bb_k 0 rfl) rfl db_c6 0 (by decide) wd_172 rfl dX6_countWaitsAndPutBys_91 ?_
                    refine lv_iload_n hx hb dX6_countWaitsAndPutBys_94 rfl (lv_at hl 2 rfl) ?_
                    refine db_ald hx hb hK hS 11 0 (bb_k 11 rfl) 2 rfl rfl i rfl hi hn0 rfl dX6_countWaitsAndPutBys_95 ?_
                    refine lv_dup hx hb dX6_countWaitsAndPutBys_96 rfl ?_
                    refine db_getN hx hb hts hown hK hS 1 i (bb_kT hi) rfl db_c5 10 (by decide) wn_91 rfl dX6_countWaitsAndPutBys_97 ?_
                    refine lv_iconst (v := 1) hx hb dX6_countWaitsAndPutBys_100 (by decide) ?_
                    refine lv_iadd hx hb dX6_countWaitsAndPutBys_101 ?_
                    refine db_putN hx hb hts hown hK hS 1 i (bb_kT hi) rfl db_c5 10 (by decide) wn_91 rfl rfl rfl (Nat.le_of_ble_eq_true rfl) rfl dX6_countWaitsAndPutBys_102 (fun H locs hS => ?_)
                    obtain ⟨X2, eX2⟩ : ∃ z, z = db_up Xa 1 i 10 ((Xa 1 i 10) + 1) := ⟨_, rfl⟩
                    rw [← eX2] at hS
                    exact K105 X2 (by rw [bb_cw1, if_neg h66, if_pos ⟨c70, c77, fun q => absurd (eb.trans (if_pos q)) (by rw [c82]; decide), c87⟩, eX2]) _ _ hS _ (lv_sub hl [0, 1, 2, 3, 4] rfl)
          refine lv_aload_n hx hb dX6_countWaitsAndPutBys_33 rfl (lv_at hl 4 rfl) ?_
          refine db_getN hx hb hts hown hK hS 2 i (bb_kJ hi) rfl db_c0 0 (by decide) wn_42 rfl dX6_countWaitsAndPutBys_34 ?_
          refine lv_if_eq (tgt := 66) hx hb dX6_countWaitsAndPutBys_37 (by decide) (fun c37 => ?_) (fun c37 => ?_)
          · exact K66  (by rintro ⟨q1, q2⟩; exact q1 c37) _ _ hS _ (lv_sub hl [1, 2, 3, 4, 0] rfl)
          · refine lv_aload_n hx hb dX6_countWaitsAndPutBys_40 rfl (lv_at hl 4 rfl) ?_
            refine db_getN hx hb hts hown hK hS 2 i (bb_kJ hi) rfl db_c0 4 (by decide) wn_51 rfl dX6_countWaitsAndPutBys_41 ?_
            refine lv_iconst (v := -1) hx hb dX6_countWaitsAndPutBys_44 (by decide) ?_
            refine lv_icmp_eq (tgt := 66) hx hb dX6_countWaitsAndPutBys_45 (by decide) (fun c45 => ?_) (fun c45 => ?_)
            · exact K66  (by rintro ⟨q1, q2⟩; exact q2 c45) _ _ hS _ (lv_sub hl [1, 2, 3, 4, 0] rfl)
            · refine lv_aload_n hx hb dX6_countWaitsAndPutBys_48 rfl (lv_at hl 1 rfl) ?_
              refine db_get hx hb hts hown hK hS 0 0 (bb_k 0 rfl) rfl db_c6 0 (by decide) wd_172 rfl dX6_countWaitsAndPutBys_49 ?_
              refine lv_iload_n hx hb dX6_countWaitsAndPutBys_52 rfl (lv_at hl 3 rfl) ?_
              refine db_ald hx hb hK hS 11 0 (bb_k 11 rfl) 2 rfl rfl i rfl hi hn0 rfl dX6_countWaitsAndPutBys_53 ?_
              refine lv_dup hx hb dX6_countWaitsAndPutBys_54 rfl ?_
              refine db_getN hx hb hts hown hK hS 1 i (bb_kT hi) rfl db_c5 9 (by decide) wn_89 rfl dX6_countWaitsAndPutBys_55 ?_
              refine lv_iconst (v := 1) hx hb dX6_countWaitsAndPutBys_58 (by decide) ?_
              refine lv_iadd hx hb dX6_countWaitsAndPutBys_59 ?_
              refine db_putN hx hb hts hown hK hS 1 i (bb_kT hi) rfl db_c5 9 (by decide) wn_89 rfl rfl rfl (Nat.le_of_ble_eq_true rfl) rfl dX6_countWaitsAndPutBys_60 (fun H locs hS => ?_)
              obtain ⟨X3, eX3⟩ : ∃ z, z = db_up Xa 1 i 9 ((Xa 1 i 9) + 1) := ⟨_, rfl⟩
              rw [← eX3] at hS
              refine lv_goto (tgt := 105) hx hb dX6_countWaitsAndPutBys_63 (by decide) ?_
              exact K105 X3 (by rw [bb_cw1, if_pos ⟨c37, c45⟩, eX3]) _ _ hS _ (lv_sub hl [1, 2, 3, 4, 0] rfl)
        refine lv_iload_n hx hb dX6_countWaitsAndPutBys_21 rfl (lv_at hl 3 rfl) ?_
        refine lv_iload_n hx hb dX6_countWaitsAndPutBys_22 rfl (lv_at hl 2 rfl) ?_
        refine lv_icmp_ne (tgt := 30) hx hb dX6_countWaitsAndPutBys_23 (by decide) (fun c23 => ?_) (fun c23 => ?_)
        · refine lv_iconst (v := 0) hx hb dX6_countWaitsAndPutBys_30 (by decide) ?_
          exact K31 0 (Or.inl rfl) (by rw [if_neg c23]) _ _ hS _ (lv_sub hl [1, 2, 3, 0] rfl)
        · refine lv_iconst (v := 1) hx hb dX6_countWaitsAndPutBys_26 (by decide) ?_
          refine lv_goto (tgt := 31) hx hb dX6_countWaitsAndPutBys_27 (by decide) ?_
          exact K31 1 (Or.inr rfl) (by rw [if_pos c23]) _ _ hS _ (lv_sub hl [1, 2, 3, 0] rfl)
  exact K2 _ 0 X (Nat.le_refl _) (Nat.zero_le _) rfl _ _ hS _ (lv_sub hl [1, 2, 0] rfl)

set_option maxHeartbeats 4000000 in
set_option maxRecDepth 100000 in
theorem c_X6_runOneJob (l : Launch) (Γ : db_G) (N : Nat → Nat) (L : Nat → Nat → Nat) (cnt : Nat) (X : db_X) (hN : bb_N N) (sz : Nat) (hI : bb_I N cnt sz X) (hcn : cnt < 2 ^ 31) : db_C l Γ yX6_runOneJob cX6_runOneJob 3 (some .int) (db_rm 4 95) [.ref (L 0 0)] L (bb_ok (N 0) cnt) (bb_cel Γ N L) X (some (.int ((bb_run1 N X sz).1))) ((bb_run1 N X sz).2) := by
  have hn0 : N 0 < 2 ^ 31 := by have := hN.2.1; omega
  have hn1 : N 1 < 2 ^ 31 := by have := hN.2.2.1; omega
  have hn2 : N 2 < 2 ^ 31 := by have := hN.2.2.2.1; omega
  have hn3 : N 3 < 2 ^ 31 := by have := hN.2.2.2.2; omega
  refine db_introI (by decide +kernel) (Nat.le_of_ble_eq_true rfl) ?_
  intro p e s m args below meth c A Q ls hC hS hl hret
  have hC : db_Cx p s m args meth c Γ RX6 cX6_runOneJob 3 (some .int) := hC
  obtain ⟨hx, hb, hml, hr, hlocks, hown, hts, hK⟩ := id hC
  have hl : lv_has ls 3 [(0, .ref (L 0 0))] := hl
  refine lv_iconst (v := 0) hx hb dX6_runOneJob_0 (by decide) ?_
  refine lv_istore_n (lv' := [(1, .int 0), (0, .ref (L 0 0))]) hx hb dX6_runOneJob_1 rfl hl (by decide) rfl (fun ls hl => ?_)
  have K2 : ∀ (q : Nat) (u : Nat) (Xa : db_X) (hq : N 0 + 1 - u ≤ q) (hu0 : u ≤ N 0) (hIa : bb_I N cnt sz Xa) (hrem : bb_run1 N X sz = bb_runF N sz (N 0 - u) Xa) (H : Heap) (locs : List Loc) (hS : db_S Γ A s.heap L (bb_ok (N 0) cnt) (bb_cel Γ N L) Xa H locs) (ls : Array Slot) (hl : lv_has ls 3 [(0, .ref (L 0 0)), (1, .int (nI u))]), W p l e (db_rm 4 95) s m args below meth c H locs 0 0 Q (F0 m 2 ls []) := by
    intro q2
    induction q2 with
    | zero =>
      intro u Xa hq2 hu0 hIa hrem
      exact absurd hq2 (by omega)
    | succ q2 ih2 =>
      intro u Xa hq2 hu0 hIa hrem H locs hS ls hl
      refine lv_iload_n hx hb dX6_runOneJob_2 rfl (lv_at hl 1 rfl) ?_
      refine lv_aload_n hx hb dX6_runOneJob_3 rfl (lv_at hl 0 rfl) ?_
      refine db_get hx hb hts hown hK hS 0 0 (bb_k 0 rfl) rfl db_c6 0 (by decide) wd_172 rfl dX6_runOneJob_4 ?_
      refine db_alen hx hb hK hS 11 0 (bb_k 11 rfl) 2 rfl rfl dX6_runOneJob_7 ?_
      refine lv_icmp_ge (tgt := 49) hx hb dX6_runOneJob_8 (by decide) (fun c8 => ?_) (fun c8 => ?_)
      · have hu : u = N 0 := by
          rcases Nat.lt_or_ge u (N 0) with q9 | q9
          · exact absurd c8 (nI_ge q9 hn0)
          · omega
        refine lv_iconst (v := -1) hx hb dX6_runOneJob_49 (by decide) ?_
        exact hret _ _ _ _ _ _ hS (by rw [hrem, hu, Nat.sub_self]; rfl) (by rw [hrem, hu, Nat.sub_self]; rfl) dX6_runOneJob_50
      · have hu : u < N 0 := by
          rcases Nat.lt_or_ge u (N 0) with q9 | q9
          · exact q9
          · exact absurd (nI_le q9 (by omega)) c8
        refine lv_aload_n hx hb dX6_runOneJob_11 rfl (lv_at hl 0 rfl) ?_
        refine db_cV (As := []) (rest := []) (st1 := []) hC hS 0 0 (bb_k 0 rfl) rfl db_c6 (c_X6_inheritDeadlines l Γ N L cnt Xa hN sz hIa) (cw_X6_inheritDeadlines (Nat.le_of_ble_eq_true rfl) (Nat.le_of_ble_eq_true rfl)) wd_276 wd_278 ws_10 rfl hl.1 rfl (Nat.le_of_ble_eq_true rfl) dX6_runOneJob_12 ⟨Nat.le_of_ble_eq_true rfl, Nat.le_of_ble_eq_true rfl⟩ rfl (fun H locs hS => ?_)
        obtain ⟨X1, eX1⟩ : ∃ z, z = bb_inh N Xa := ⟨_, rfl⟩
        rw [← eX1] at hS
        refine lv_aload_n hx hb dX6_runOneJob_15 rfl (lv_at hl 0 rfl) ?_
        refine lv_iconst (v := -1) hx hb dX6_runOneJob_16 (by decide) ?_
        refine db_cV (As := [.int (-1)]) (rest := []) (st1 := [.int (bb_ahead N X1 (-1))]) hC hS 0 0 (bb_k 0 rfl) rfl db_c6 (c_X6_aheadOfAll l Γ N L cnt X1 hN (-1)) (cw_X6_aheadOfAll (Nat.le_of_ble_eq_true rfl) (Nat.le_of_ble_eq_true rfl)) wd_284 wd_286 ws_12 rfl hl.1 rfl (Nat.le_of_ble_eq_true rfl) dX6_runOneJob_17 ⟨Nat.le_of_ble_eq_true rfl, Nat.le_of_ble_eq_true rfl⟩ rfl (fun H locs hS => ?_)
        refine lv_istore_n (lv' := [(2, .int (bb_ahead N X1 (-1))), (0, .ref (L 0 0)), (1, .int (nI u))]) hx hb dX6_runOneJob_20 rfl hl (by decide) rfl (fun ls hl => ?_)
        refine lv_iload_n hx hb dX6_runOneJob_21 rfl (lv_at hl 0 rfl) ?_
        refine lv_iconst (v := -1) hx hb dX6_runOneJob_22 (by decide) ?_
        refine lv_icmp_ne (tgt := 28) hx hb dX6_runOneJob_23 (by decide) (fun c23 => ?_) (fun c23 => ?_)
        · have hIb : bb_I N cnt sz X1 := by rw [eX1]; exact hIa.inh
          have hin : db_in (bb_ahead N X1 (-1)) (N 0) := bb_ahead_in c23
          refine lv_aload_n hx hb dX6_runOneJob_28 rfl (lv_at hl 1 rfl) ?_
          refine lv_iload_n hx hb dX6_runOneJob_29 rfl (lv_at hl 0 rfl) ?_
          refine db_cV (As := [.int (bb_ahead N X1 (-1))]) (rest := []) (st1 := [.int ((bb_take X1 sz (bb_ahead N X1 (-1)).toNatClampNeg).1)]) hC hS 0 0 (bb_k 0 rfl) rfl db_c6 (c_X6_takeLocks' l Γ N L cnt X1 hN (bb_ahead N X1 (-1)) sz hIb hcn hin) (cw_X6_takeLocks (Nat.le_of_ble_eq_true rfl) (Nat.le_of_ble_eq_true rfl)) wd_332 wd_334 ws_22 rfl hl.1 rfl (Nat.le_of_ble_eq_true rfl) dX6_runOneJob_30 ⟨Nat.le_of_ble_eq_true rfl, Nat.le_of_ble_eq_true rfl⟩ rfl (fun H locs hS => ?_)
          obtain ⟨X2, eX2⟩ : ∃ z, z = (bb_take X1 sz (bb_ahead N X1 (-1)).toNatClampNeg).2 := ⟨_, rfl⟩
          rw [← eX2] at hS
          refine lv_if_eq (tgt := 43) hx hb dX6_runOneJob_33 (by decide) (fun c33 => ?_) (fun c33 => ?_)
          · refine lv_iinc (v := (nI (u + 1))) (lv' := [(1, .int (nI (u + 1))), (2, .int (bb_ahead N X1 (-1))), (0, .ref (L 0 0))]) hx hb dX6_runOneJob_43 hl (k := 2) rfl (nI_1 _) (by decide) rfl (fun ls hl => ?_)
            refine lv_goto (tgt := 2) hx hb dX6_runOneJob_46 (by decide) ?_
            exact ih2 (u + 1) X2 (by omega) hu (by rw [eX2]; exact bb_I.takeF (hin.lt hn0) sz 0 _ (by omega) hIb) (by rw [hrem, show N 0 - u = (N 0 - (u + 1)) + 1 by omega, bb_runF, ← eX1, if_neg c23, if_pos c33, eX2]) _ _ hS _ (lv_sub hl [2, 0] rfl)
          · have hIc : bb_I N cnt sz X2 := by rw [eX2]; exact bb_I.takeF (hin.lt hn0) sz 0 _ (by omega) hIb
            refine lv_aload_n hx hb dX6_runOneJob_36 rfl (lv_at hl 1 rfl) ?_
            refine lv_iload_n hx hb dX6_runOneJob_37 rfl (lv_at hl 0 rfl) ?_
            refine db_cV (As := [.int (bb_ahead N X1 (-1))]) (rest := []) (st1 := []) hC hS 0 0 (bb_k 0 rfl) rfl db_c6 (c_X6_workOneUnit' l Γ N L cnt X2 hN (bb_ahead N X1 (-1)) sz hIc hcn hin) (cw_X6_workOneUnit (Nat.le_of_ble_eq_true rfl) (Nat.le_of_ble_eq_true rfl)) wd_336 wd_338 ws_23 rfl hl.1 rfl (Nat.le_of_ble_eq_true rfl) dX6_runOneJob_38 ⟨Nat.le_of_ble_eq_true rfl, Nat.le_of_ble_eq_true rfl⟩ rfl (fun H locs hS => ?_)
            obtain ⟨X3, eX3⟩ : ∃ z, z = bb_work N X2 sz (bb_ahead N X1 (-1)).toNatClampNeg := ⟨_, rfl⟩
            rw [← eX3] at hS
            refine lv_iload_n hx hb dX6_runOneJob_41 rfl (lv_at hl 0 rfl) ?_
            exact hret _ _ _ _ _ _ hS (by rw [hrem, show N 0 - u = (N 0 - (u + 1)) + 1 by omega, bb_runF, ← eX1, if_neg c23, if_neg c33]) (by rw [hrem, show N 0 - u = (N 0 - (u + 1)) + 1 by omega, bb_runF, ← eX1, if_neg c23, if_neg c33, eX3, eX2]) dX6_runOneJob_42
        · refine lv_iconst (v := -1) hx hb dX6_runOneJob_26 (by decide) ?_
          exact hret _ _ _ _ _ _ hS (by rw [hrem, show N 0 - u = (N 0 - (u + 1)) + 1 by omega, bb_runF, ← eX1, if_pos c23]) (by rw [hrem, show N 0 - u = (N 0 - (u + 1)) + 1 by omega, bb_runF, ← eX1, if_pos c23]) dX6_runOneJob_27
  exact K2 _ 0 X (Nat.le_refl _) (Nat.zero_le _) hI rfl _ _ hS _ (lv_sub hl [1, 0] rfl)

set_option maxHeartbeats 4000000 in
set_option maxRecDepth 100000 in
theorem c_X6_passTick (l : Launch) (Γ : db_G) (N : Nat → Nat) (L : Nat → Nat → Nat) (cnt : Nat) (X : db_X) (hN : bb_N N) (sz tm th : Nat) (hI : bb_I N cnt sz X) (hcn : cnt < 2 ^ 31) (htm : X 6 0 2 = nI tm) (htm2 : tm + 40 < 2 ^ 31) (hth : X 9 0 1 = nI th) (hth2 : th < 2 ^ 31) : db_C l Γ yX6_passTick cX6_passTick 2 (some .int) (db_rm 5 117) [.ref (L 0 0)] L (bb_ok (N 0) cnt) (bb_cel Γ N L) X (some (.int ((bb_pass N X sz th).1))) ((bb_pass N X sz th).2) := by
  have hn0 : N 0 < 2 ^ 31 := by have := hN.2.1; omega
  have hn1 : N 1 < 2 ^ 31 := by have := hN.2.2.1; omega
  have hn2 : N 2 < 2 ^ 31 := by have := hN.2.2.2.1; omega
  have hn3 : N 3 < 2 ^ 31 := by have := hN.2.2.2.2; omega
  refine db_introI (by decide +kernel) (Nat.le_of_ble_eq_true rfl) ?_
  intro p e s m args below meth c A Q ls hC hS hl hret
  have hC : db_Cx p s m args meth c Γ RX6 cX6_passTick 2 (some .int) := hC
  obtain ⟨hx, hb, hml, hr, hlocks, hown, hts, hK⟩ := id hC
  have hl : lv_has ls 2 [(0, .ref (L 0 0))] := hl
  refine lv_aload_n hx hb dX6_passTick_0 rfl (lv_at hl 0 rfl) ?_
  refine db_cV (As := []) (rest := []) (st1 := []) hC hS 0 0 (bb_k 0 rfl) rfl db_c6 (c_X6_dropLateJobs l Γ N L cnt X hN sz tm hI htm htm2) (cw_X6_dropLateJobs (Nat.le_of_ble_eq_true rfl) (Nat.le_of_ble_eq_true rfl)) wd_308 wd_310 ws_16 rfl hl.1 rfl (Nat.le_of_ble_eq_true rfl) dX6_passTick_1 ⟨Nat.le_of_ble_eq_true rfl, Nat.le_of_ble_eq_true rfl⟩ rfl (fun H locs hS => ?_)
  obtain ⟨X1, eX1⟩ : ∃ z, z = bb_late N X (N 0) := ⟨_, rfl⟩
  rw [← eX1] at hS
  refine lv_aload_n hx hb dX6_passTick_4 rfl (lv_at hl 0 rfl) ?_
  refine db_cV (As := []) (rest := []) (st1 := []) hC hS 0 0 (bb_k 0 rfl) rfl db_c6 (c_X6_releaseJobs l Γ N L cnt X1 hN) (cw_X6_releaseJobs (Nat.le_of_ble_eq_true rfl) (Nat.le_of_ble_eq_true rfl)) wd_316 wd_318 ws_18 rfl hl.1 rfl (Nat.le_of_ble_eq_true rfl) dX6_passTick_5 ⟨Nat.le_of_ble_eq_true rfl, Nat.le_of_ble_eq_true rfl⟩ rfl (fun H locs hS => ?_)
  obtain ⟨X2, eX2⟩ : ∃ z, z = bb_rels X1 (N 0) := ⟨_, rfl⟩
  rw [← eX2] at hS
  have ept : X2 = bb_pt1 N X := by rw [eX2, eX1]; rfl
  have hIp : bb_I N cnt sz X2 := by rw [ept]; exact hI.pt1
  refine lv_aload_n hx hb dX6_passTick_8 rfl (lv_at hl 0 rfl) ?_
  refine db_cV (As := []) (rest := []) (st1 := [.int ((bb_run1 N X2 sz).1)]) hC hS 0 0 (bb_k 0 rfl) rfl db_c6 (c_X6_runOneJob l Γ N L cnt X2 hN sz hIp hcn) (cw_X6_runOneJob (Nat.le_of_ble_eq_true rfl) (Nat.le_of_ble_eq_true rfl)) wd_328 wd_330 ws_21 rfl hl.1 rfl (Nat.le_of_ble_eq_true rfl) dX6_passTick_9 ⟨Nat.le_of_ble_eq_true rfl, Nat.le_of_ble_eq_true rfl⟩ rfl (fun H locs hS => ?_)
  obtain ⟨X3, eX3⟩ : ∃ z, z = (bb_run1 N X2 sz).2 := ⟨_, rfl⟩
  rw [← eX3] at hS
  refine lv_istore_n (lv' := [(1, .int ((bb_run1 N X2 sz).1)), (0, .ref (L 0 0))]) hx hb dX6_passTick_12 rfl hl (by decide) rfl (fun ls hl => ?_)
  refine lv_aload_n hx hb dX6_passTick_13 rfl (lv_at hl 1 rfl) ?_
  refine lv_iload_n hx hb dX6_passTick_14 rfl (lv_at hl 0 rfl) ?_
  refine db_cV (As := [.int ((bb_run1 N X2 sz).1)]) (rest := []) (st1 := []) hC hS 0 0 (bb_k 0 rfl) rfl db_c6 (c_X6_countWaitsAndPutBys l Γ N L cnt X3 hN ((bb_run1 N X2 sz).1)) (cw_X6_countWaitsAndPutBys (Nat.le_of_ble_eq_true rfl) (Nat.le_of_ble_eq_true rfl)) wd_345 wd_347 ws_25 rfl hl.1 rfl (Nat.le_of_ble_eq_true rfl) dX6_passTick_15 ⟨Nat.le_of_ble_eq_true rfl, Nat.le_of_ble_eq_true rfl⟩ rfl (fun H locs hS => ?_)
  obtain ⟨X4, eX4⟩ : ∃ z, z = bb_cw ((bb_run1 N X2 sz).1) X3 (N 0) := ⟨_, rfl⟩
  rw [← eX4] at hS
  have hth1 : X4 9 0 1 = nI th := by rw [eX4, bb_cw_fr _ 9 0 1 rfl, eX3, bb_run1_fr 9 0 1 rfl, ept, bb_pt1_fr 9 0 1 rfl]; exact hth
  refine lv_aload_n hx hb dX6_passTick_18 rfl (lv_at hl 1 rfl) ?_
  refine db_get hx hb hts hown hK hS 0 0 (bb_k 0 rfl) rfl db_c6 4 (by decide) wd_176 rfl dX6_passTick_19 ?_
  refine lv_iload_n hx hb dX6_passTick_22 rfl (lv_at hl 0 rfl) ?_
  refine db_cVN (As := [.int ((bb_run1 N X2 sz).1)]) (rest := []) (st1 := []) hC hS 9 0 (bb_k 9 rfl) rfl db_c2 (c_X2_note l Γ N L cnt X4 hN ((bb_run1 N X2 sz).1) th hth1 hth2) (cw_X2_note (Nat.le_of_ble_eq_true rfl) (Nat.le_of_ble_eq_true rfl)) wn_349 wd_351 ws_26 rfl hl.1 rfl (Nat.le_of_ble_eq_true rfl) dX6_passTick_23 ⟨Nat.le_of_ble_eq_true rfl, Nat.le_of_ble_eq_true rfl⟩ rfl (fun H locs hS => ?_)
  obtain ⟨X5, eX5⟩ : ∃ z, z = bb_hn X4 th ((bb_run1 N X2 sz).1) := ⟨_, rfl⟩
  rw [← eX5] at hS
  refine lv_iload_n hx hb dX6_passTick_26 rfl (lv_at hl 0 rfl) ?_
  refine lv_iconst (v := -1) hx hb dX6_passTick_27 (by decide) ?_
  refine lv_icmp_ne (tgt := 41) hx hb dX6_passTick_28 (by decide) (fun c28 => ?_) (fun c28 => ?_)
  · refine lv_aload_n hx hb dX6_passTick_41 rfl (lv_at hl 1 rfl) ?_
    refine lv_dup hx hb dX6_passTick_42 rfl ?_
    refine db_get hx hb hts hown hK hS 0 0 (bb_k 0 rfl) rfl db_c6 6 (by decide) wd_178 rfl dX6_passTick_43 ?_
    refine lv_iconst (v := 1) hx hb dX6_passTick_46 (by decide) ?_
    refine lv_iadd hx hb dX6_passTick_47 ?_
    refine db_put hx hb hts hown hK hS 0 0 (bb_k 0 rfl) rfl db_c6 6 (by decide) wd_178 rfl rfl rfl (Nat.le_of_ble_eq_true rfl) rfl dX6_passTick_48 (fun H locs hS => ?_)
    obtain ⟨X6, eX6⟩ : ∃ z, z = db_up X5 0 0 6 ((X5 0 0 6) + 1) := ⟨_, rfl⟩
    rw [← eX6] at hS
    refine lv_iload_n hx hb dX6_passTick_51 rfl (lv_at hl 0 rfl) ?_
    exact hret _ _ _ _ _ _ hS (by simp only [bb_pass]; rw [← ept]) (by simp only [bb_pass, bb_pt2, bb_pt3]; rw [← ept, if_neg c28, eX6, eX5, eX4, eX3]; rfl) dX6_passTick_52
  · refine lv_aload_n hx hb dX6_passTick_31 rfl (lv_at hl 1 rfl) ?_
    refine lv_dup hx hb dX6_passTick_32 rfl ?_
    refine db_get hx hb hts hown hK hS 0 0 (bb_k 0 rfl) rfl db_c6 7 (by decide) wd_179 rfl dX6_passTick_33 ?_
    refine lv_iconst (v := 1) hx hb dX6_passTick_36 (by decide) ?_
    refine lv_iadd hx hb dX6_passTick_37 ?_
    refine db_put hx hb hts hown hK hS 0 0 (bb_k 0 rfl) rfl db_c6 7 (by decide) wd_179 rfl rfl rfl (Nat.le_of_ble_eq_true rfl) rfl dX6_passTick_38 (fun H locs hS => ?_)
    obtain ⟨X7, eX7⟩ : ∃ z, z = db_up X5 0 0 7 ((X5 0 0 7) + 1) := ⟨_, rfl⟩
    rw [← eX7] at hS
    refine lv_aload_n hx hb dX6_passTick_41 rfl (lv_at hl 1 rfl) ?_
    refine lv_dup hx hb dX6_passTick_42 rfl ?_
    refine db_get hx hb hts hown hK hS 0 0 (bb_k 0 rfl) rfl db_c6 6 (by decide) wd_178 rfl dX6_passTick_43 ?_
    refine lv_iconst (v := 1) hx hb dX6_passTick_46 (by decide) ?_
    refine lv_iadd hx hb dX6_passTick_47 ?_
    refine db_put hx hb hts hown hK hS 0 0 (bb_k 0 rfl) rfl db_c6 6 (by decide) wd_178 rfl rfl rfl (Nat.le_of_ble_eq_true rfl) rfl dX6_passTick_48 (fun H locs hS => ?_)
    obtain ⟨X8, eX8⟩ : ∃ z, z = db_up X7 0 0 6 ((X7 0 0 6) + 1) := ⟨_, rfl⟩
    rw [← eX8] at hS
    refine lv_iload_n hx hb dX6_passTick_51 rfl (lv_at hl 0 rfl) ?_
    exact hret _ _ _ _ _ _ hS (by simp only [bb_pass]; rw [← ept]) (by simp only [bb_pass, bb_pt2, bb_pt3]; rw [← ept, if_pos c28, eX8, eX7, eX5, eX4, eX3]; rfl) dX6_passTick_52
