set_option maxHeartbeats 4000000 in
set_option maxRecDepth 100000 in
theorem c_X7_addTask (l : Launch) (Γ : db_G) (N : Nat → Nat) (L : Nat → Nat → Nat) (X : db_X) (hN : bb_N N) (p1 : Int32) (w : Int32) (d : Int32) : db_C l Γ yX7_addTask cX7_addTask 5 (some .int) (db_rm 0 0) [.ref (L 0 0), .int p1, .int w, .int d] L mm_ok (mm_cel Γ N L) X (some (.int ((mm_addTask N X p1 w d).1))) ((mm_addTask N X p1 w d).2) := by
  have hn0 : N 0 < 2 ^ 31 := by have := hN.2.1; omega
  have hn1 : N 1 < 2 ^ 31 := by have := hN.2.2.1; omega
  have hn2 : N 2 < 2 ^ 31 := by have := hN.2.2.2.1; omega
  have hn3 : N 3 < 2 ^ 31 := by have := hN.2.2.2.2; omega
  refine db_introI (by decide +kernel) (Nat.le_of_ble_eq_true rfl) ?_
  intro p e s m args below meth c A Q ls hC hS hl hret
  have hC : db_Cx p s m args meth c Γ RX7 cX7_addTask 5 (some .int) := hC
  obtain ⟨hx, hb, hml, hr, hlocks, hown, hts, hK⟩ := id hC
  have hl : lv_has ls 5 [(0, .ref (L 0 0)), (1, .int p1), (2, .int w), (3, .int d)] := hl
  have K22 : ∀ (h22 : mm_wf X p1 w d = 0) (H : Heap) (locs : List Loc) (hS : db_S Γ A s.heap L mm_ok (mm_cel Γ N L) X H locs) (ls : Array Slot) (hl : lv_has ls 5 []), W p l e (db_rm 0 0) s m args below meth c H locs 0 0 Q (F0 m 22 ls []) := by
    intro  h22 H locs hS ls hl
    refine lv_bipush (v := -2) hx hb dX7_addTask_22 (by decide) ?_
    exact hret _ _ _ _ _ _ hS (by rw [mm_addTask, if_pos h22]) (by rw [mm_addTask, if_pos h22]) dX7_addTask_24
  refine lv_iload_n hx hb dX7_addTask_0 rfl (lv_at hl 2 rfl) ?_
  refine lv_if_le (tgt := 22) hx hb dX7_addTask_1 (by decide) (fun c1 => ?_) (fun c1 => ?_)
  · exact K22  (by simp [mm_wf, c1]) _ _ hS _ (lv_sub hl [] rfl)
  · refine lv_iload_n hx hb dX7_addTask_4 rfl (lv_at hl 2 rfl) ?_
    refine lv_iload_n hx hb dX7_addTask_5 rfl (lv_at hl 3 rfl) ?_
    refine lv_icmp_gt (tgt := 22) hx hb dX7_addTask_6 (by decide) (fun c6 => ?_) (fun c6 => ?_)
    · exact K22  (by simp [mm_wf, c1, c6]) _ _ hS _ (lv_sub hl [] rfl)
    · refine lv_iload_n hx hb dX7_addTask_9 rfl (lv_at hl 3 rfl) ?_
      refine lv_iload_n hx hb dX7_addTask_10 rfl (lv_at hl 1 rfl) ?_
      refine lv_icmp_gt (tgt := 22) hx hb dX7_addTask_11 (by decide) (fun c11 => ?_) (fun c11 => ?_)
      · exact K22  (by simp [mm_wf, c1, c6, c11]) _ _ hS _ (lv_sub hl [] rfl)
      · refine lv_iload_n hx hb dX7_addTask_14 rfl (lv_at hl 1 rfl) ?_
        refine lv_aload_n hx hb dX7_addTask_15 rfl (lv_at hl 0 rfl) ?_
        refine db_get hx hb hts hown hK hS 0 0 (mm_k 0 rfl) rfl db_c7 4 (by decide) wd_445 rfl dX7_addTask_16 ?_
        refine lv_icmp_le (tgt := 25) hx hb dX7_addTask_19 (by decide) (fun c19 => ?_) (fun c19 => ?_)
        · have hwf : ¬ mm_wf X p1 w d = 0 := by simp [mm_wf, c1, c6, c11, Int32.not_lt.mpr c19]
          have K53 : ∀ (j : Nat) (hj0 : j ≤ N 0) (hfr : mm_free N X = j) (H : Heap) (locs : List Loc) (hS : db_S Γ A s.heap L mm_ok (mm_cel Γ N L) X H locs) (ls : Array Slot) (hl : lv_has ls 5 [(0, .ref (L 0 0)), (1, .int p1), (2, .int w), (3, .int d), (4, .int (nI j))]), W p l e (db_rm 0 0) s m args below meth c H locs 0 0 Q (F0 m 53 ls []) := by
            intro j hj0 hfr H locs hS ls hl
            refine lv_iload hx hb dX7_addTask_53 (lv_at hl 4 rfl) ?_
            refine lv_aload_n hx hb dX7_addTask_55 rfl (lv_at hl 0 rfl) ?_
            refine db_get hx hb hts hown hK hS 0 0 (mm_k 0 rfl) rfl db_c7 0 (by decide) wd_441 rfl dX7_addTask_56 ?_
            refine lv_icmp_ne (tgt := 64) hx hb dX7_addTask_59 (by decide) (fun c59 => ?_) (fun c59 => ?_)
            · have hj : j < N 0 := by
                rcases Nat.lt_or_ge j (N 0) with q9 | q9
                · exact q9
                · exact absurd (show nI j = nI (N 0) by rw [show j = N 0 by omega]) c59
              refine lv_aload_n hx hb dX7_addTask_64 rfl (lv_at hl 0 rfl) ?_
              refine db_get hx hb hts hown hK hS 0 0 (mm_k 0 rfl) rfl db_c7 6 (by decide) wd_447 rfl dX7_addTask_65 ?_
              refine lv_iload hx hb dX7_addTask_68 (lv_at hl 4 rfl) ?_
              refine lv_iconst (v := 1) hx hb dX7_addTask_70 (by decide) ?_
              refine db_zst hx hb hK hS 6 0 (mm_k 6 rfl) (fun _ => rfl) j rfl (Nat.lt_of_lt_of_le hj hN.2.1) (by decide) (Or.inr rfl) dX7_addTask_71 (fun H locs hS => ?_)
              obtain ⟨X1, eX1⟩ : ∃ z, z = db_up X 6 0 j 1 := ⟨_, rfl⟩
              rw [← eX1] at hS
              refine lv_aload_n hx hb dX7_addTask_72 rfl (lv_at hl 0 rfl) ?_
              refine db_get hx hb hts hown hK hS 0 0 (mm_k 0 rfl) rfl db_c7 7 (by decide) wd_448 rfl dX7_addTask_73 ?_
              refine lv_iload hx hb dX7_addTask_76 (lv_at hl 4 rfl) ?_
              refine lv_iload_n hx hb dX7_addTask_78 rfl (lv_at hl 1 rfl) ?_
              refine db_ist hx hb hK hS 7 0 (mm_k 7 rfl) (fun _ => rfl) j rfl (Nat.lt_of_lt_of_le hj hN.2.1) (by decide) dX7_addTask_79 (fun H locs hS => ?_)
              obtain ⟨X2, eX2⟩ : ∃ z, z = db_up X1 7 0 j p1 := ⟨_, rfl⟩
              rw [← eX2] at hS
              refine lv_aload_n hx hb dX7_addTask_80 rfl (lv_at hl 0 rfl) ?_
              refine db_get hx hb hts hown hK hS 0 0 (mm_k 0 rfl) rfl db_c7 8 (by decide) wd_449 rfl dX7_addTask_81 ?_
              refine lv_iload hx hb dX7_addTask_84 (lv_at hl 4 rfl) ?_
              refine lv_iload_n hx hb dX7_addTask_86 rfl (lv_at hl 2 rfl) ?_
              refine db_ist hx hb hK hS 8 0 (mm_k 8 rfl) (fun _ => rfl) j rfl (Nat.lt_of_lt_of_le hj hN.2.1) (by decide) dX7_addTask_87 (fun H locs hS => ?_)
              obtain ⟨X3, eX3⟩ : ∃ z, z = db_up X2 8 0 j w := ⟨_, rfl⟩
              rw [← eX3] at hS
              refine lv_aload_n hx hb dX7_addTask_88 rfl (lv_at hl 0 rfl) ?_
              refine db_get hx hb hts hown hK hS 0 0 (mm_k 0 rfl) rfl db_c7 9 (by decide) wd_450 rfl dX7_addTask_89 ?_
              refine lv_iload hx hb dX7_addTask_92 (lv_at hl 4 rfl) ?_
              refine lv_iload_n hx hb dX7_addTask_94 rfl (lv_at hl 3 rfl) ?_
              refine db_ist hx hb hK hS 9 0 (mm_k 9 rfl) (fun _ => rfl) j rfl (Nat.lt_of_lt_of_le hj hN.2.1) (by decide) dX7_addTask_95 (fun H locs hS => ?_)
              obtain ⟨X4, eX4⟩ : ∃ z, z = db_up X3 9 0 j d := ⟨_, rfl⟩
              rw [← eX4] at hS
              refine lv_aload_n hx hb dX7_addTask_96 rfl (lv_at hl 0 rfl) ?_
              refine db_get hx hb hts hown hK hS 0 0 (mm_k 0 rfl) rfl db_c7 10 (by decide) wd_451 rfl dX7_addTask_97 ?_
              refine lv_iload hx hb dX7_addTask_100 (lv_at hl 4 rfl) ?_
              refine lv_aload_n hx hb dX7_addTask_102 rfl (lv_at hl 0 rfl) ?_
              refine db_get hx hb hts hown hK hS 0 0 (mm_k 0 rfl) rfl db_c7 5 (by decide) wd_446 rfl dX7_addTask_103 ?_
              refine db_ist hx hb hK hS 10 0 (mm_k 10 rfl) (fun _ => rfl) j rfl (Nat.lt_of_lt_of_le hj hN.2.1) (by decide) dX7_addTask_106 (fun H locs hS => ?_)
              obtain ⟨X5, eX5⟩ : ∃ z, z = db_up X4 10 0 j (X4 0 0 5) := ⟨_, rfl⟩
              rw [← eX5] at hS
              refine lv_aload_n hx hb dX7_addTask_107 rfl (lv_at hl 0 rfl) ?_
              refine db_get hx hb hts hown hK hS 0 0 (mm_k 0 rfl) rfl db_c7 11 (by decide) wd_452 rfl dX7_addTask_108 ?_
              refine lv_iload hx hb dX7_addTask_111 (lv_at hl 4 rfl) ?_
              refine lv_iconst (v := 0) hx hb dX7_addTask_113 (by decide) ?_
              refine db_ist hx hb hK hS 11 0 (mm_k 11 rfl) (fun _ => rfl) j rfl (Nat.lt_of_lt_of_le hj hN.2.1) (by decide) dX7_addTask_114 (fun H locs hS => ?_)
              obtain ⟨X6, eX6⟩ : ∃ z, z = db_up X5 11 0 j 0 := ⟨_, rfl⟩
              rw [← eX6] at hS
              refine lv_aload_n hx hb dX7_addTask_115 rfl (lv_at hl 0 rfl) ?_
              refine db_get hx hb hts hown hK hS 0 0 (mm_k 0 rfl) rfl db_c7 12 (by decide) wd_453 rfl dX7_addTask_116 ?_
              refine lv_iload hx hb dX7_addTask_119 (lv_at hl 4 rfl) ?_
              refine lv_iconst (v := 0) hx hb dX7_addTask_121 (by decide) ?_
              refine db_ist hx hb hK hS 12 0 (mm_k 12 rfl) (fun _ => rfl) j rfl (Nat.lt_of_lt_of_le hj hN.2.1) (by decide) dX7_addTask_122 (fun H locs hS => ?_)
              obtain ⟨X7, eX7⟩ : ∃ z, z = db_up X6 12 0 j 0 := ⟨_, rfl⟩
              rw [← eX7] at hS
              refine lv_aload_n hx hb dX7_addTask_123 rfl (lv_at hl 0 rfl) ?_
              refine db_get hx hb hts hown hK hS 0 0 (mm_k 0 rfl) rfl db_c7 13 (by decide) wd_454 rfl dX7_addTask_124 ?_
              refine lv_iload hx hb dX7_addTask_127 (lv_at hl 4 rfl) ?_
              refine lv_iconst (v := 0) hx hb dX7_addTask_129 (by decide) ?_
              refine db_ist hx hb hK hS 13 0 (mm_k 13 rfl) (fun _ => rfl) j rfl (Nat.lt_of_lt_of_le hj hN.2.1) (by decide) dX7_addTask_130 (fun H locs hS => ?_)
              obtain ⟨X8, eX8⟩ : ∃ z, z = db_up X7 13 0 j 0 := ⟨_, rfl⟩
              rw [← eX8] at hS
              refine lv_aload_n hx hb dX7_addTask_131 rfl (lv_at hl 0 rfl) ?_
              refine db_get hx hb hts hown hK hS 0 0 (mm_k 0 rfl) rfl db_c7 14 (by decide) wd_455 rfl dX7_addTask_132 ?_
              refine lv_iload hx hb dX7_addTask_135 (lv_at hl 4 rfl) ?_
              refine lv_iconst (v := 0) hx hb dX7_addTask_137 (by decide) ?_
              refine db_ist hx hb hK hS 14 0 (mm_k 14 rfl) (fun _ => rfl) j rfl (Nat.lt_of_lt_of_le hj hN.2.1) (by decide) dX7_addTask_138 (fun H locs hS => ?_)
              obtain ⟨X9, eX9⟩ : ∃ z, z = db_up X8 14 0 j 0 := ⟨_, rfl⟩
              rw [← eX9] at hS
              refine lv_aload_n hx hb dX7_addTask_139 rfl (lv_at hl 0 rfl) ?_
              refine db_get hx hb hts hown hK hS 0 0 (mm_k 0 rfl) rfl db_c7 15 (by decide) wd_456 rfl dX7_addTask_140 ?_
              refine lv_iload hx hb dX7_addTask_143 (lv_at hl 4 rfl) ?_
              refine lv_iconst (v := 0) hx hb dX7_addTask_145 (by decide) ?_
              refine db_ist hx hb hK hS 15 0 (mm_k 15 rfl) (fun _ => rfl) j rfl (Nat.lt_of_lt_of_le hj hN.2.1) (by decide) dX7_addTask_146 (fun H locs hS => ?_)
              obtain ⟨X10, eX10⟩ : ∃ z, z = db_up X9 15 0 j 0 := ⟨_, rfl⟩
              rw [← eX10] at hS
              refine lv_aload_n hx hb dX7_addTask_147 rfl (lv_at hl 0 rfl) ?_
              refine db_get hx hb hts hown hK hS 0 0 (mm_k 0 rfl) rfl db_c7 16 (by decide) wd_457 rfl dX7_addTask_148 ?_
              refine lv_iload hx hb dX7_addTask_151 (lv_at hl 4 rfl) ?_
              refine lv_iconst (v := 0) hx hb dX7_addTask_153 (by decide) ?_
              refine db_ist hx hb hK hS 16 0 (mm_k 16 rfl) (fun _ => rfl) j rfl (Nat.lt_of_lt_of_le hj hN.2.1) (by decide) dX7_addTask_154 (fun H locs hS => ?_)
              obtain ⟨X11, eX11⟩ : ∃ z, z = db_up X10 16 0 j 0 := ⟨_, rfl⟩
              rw [← eX11] at hS
              refine lv_aload_n hx hb dX7_addTask_155 rfl (lv_at hl 0 rfl) ?_
              refine db_get hx hb hts hown hK hS 0 0 (mm_k 0 rfl) rfl db_c7 17 (by decide) wd_458 rfl dX7_addTask_156 ?_
              refine lv_iload hx hb dX7_addTask_159 (lv_at hl 4 rfl) ?_
              refine lv_iconst (v := 0) hx hb dX7_addTask_161 (by decide) ?_
              refine db_zst hx hb hK hS 17 0 (mm_k 17 rfl) (fun _ => rfl) j rfl (Nat.lt_of_lt_of_le hj hN.2.1) (by decide) (Or.inl rfl) dX7_addTask_162 (fun H locs hS => ?_)
              obtain ⟨X12, eX12⟩ : ∃ z, z = db_up X11 17 0 j 0 := ⟨_, rfl⟩
              rw [← eX12] at hS
              refine lv_aload_n hx hb dX7_addTask_163 rfl (lv_at hl 0 rfl) ?_
              refine db_get hx hb hts hown hK hS 0 0 (mm_k 0 rfl) rfl db_c7 21 (by decide) wd_462 rfl dX7_addTask_164 ?_
              refine lv_iload hx hb dX7_addTask_167 (lv_at hl 4 rfl) ?_
              refine lv_iconst (v := -1) hx hb dX7_addTask_169 (by decide) ?_
              refine db_ist hx hb hK hS 21 0 (mm_k 21 rfl) (fun _ => rfl) j rfl (Nat.lt_of_lt_of_le hj hN.2.1) (by decide) dX7_addTask_170 (fun H locs hS => ?_)
              obtain ⟨X13, eX13⟩ : ∃ z, z = db_up X12 21 0 j (-1) := ⟨_, rfl⟩
              rw [← eX13] at hS
              refine lv_aload_n hx hb dX7_addTask_171 rfl (lv_at hl 0 rfl) ?_
              refine db_get hx hb hts hown hK hS 0 0 (mm_k 0 rfl) rfl db_c7 22 (by decide) wd_463 rfl dX7_addTask_172 ?_
              refine lv_iload hx hb dX7_addTask_175 (lv_at hl 4 rfl) ?_
              refine lv_iconst (v := 0) hx hb dX7_addTask_177 (by decide) ?_
              refine db_zst hx hb hK hS 22 0 (mm_k 22 rfl) (fun _ => rfl) j rfl (Nat.lt_of_lt_of_le hj hN.2.1) (by decide) (Or.inl rfl) dX7_addTask_178 (fun H locs hS => ?_)
              obtain ⟨X14, eX14⟩ : ∃ z, z = db_up X13 22 0 j 0 := ⟨_, rfl⟩
              rw [← eX14] at hS
              refine lv_iload hx hb dX7_addTask_179 (lv_at hl 4 rfl) ?_
              exact hret _ _ _ _ _ _ hS (by rw [mm_addTask, if_neg hwf, if_pos (by rw [hfr]; exact hj), hfr]) (by rw [mm_addTask, if_neg hwf, if_pos (by rw [hfr]; exact hj), hfr, eX14, eX13, eX12, eX11, eX10, eX9, eX8, eX7, eX6, eX5, eX4, eX3, eX2, eX1]; rfl) dX7_addTask_181
            · refine lv_iconst (v := -1) hx hb dX7_addTask_62 (by decide) ?_
              exact hret _ _ _ _ _ _ hS (by rw [mm_addTask, if_neg hwf, if_neg (by rw [hfr, (nI_eq (by omega) hn0).mp c59]; exact Nat.lt_irrefl _)]) (by rw [mm_addTask, if_neg hwf, if_neg (by rw [hfr, (nI_eq (by omega) hn0).mp c59]; exact Nat.lt_irrefl _)]) dX7_addTask_63
          refine lv_iconst (v := 0) hx hb dX7_addTask_25 (by decide) ?_
          refine lv_istore (lv' := [(4, .int 0), (0, .ref (L 0 0)), (1, .int p1), (2, .int w), (3, .int d)]) hx hb dX7_addTask_26 hl (by decide) rfl (fun ls hl => ?_)
          have K28 : ∀ (q : Nat) (j : Nat) (hq : N 0 + 1 - j ≤ q) (hj0 : j ≤ N 0) (hrem : mm_free N X = db_fst (fun j => decide (X 6 0 j = 0)) (N 0 - j) j) (H : Heap) (locs : List Loc) (hS : db_S Γ A s.heap L mm_ok (mm_cel Γ N L) X H locs) (ls : Array Slot) (hl : lv_has ls 5 [(0, .ref (L 0 0)), (1, .int p1), (2, .int w), (3, .int d), (4, .int (nI j))]), W p l e (db_rm 0 0) s m args below meth c H locs 0 0 Q (F0 m 28 ls []) := by
            intro q28
            induction q28 with
            | zero =>
              intro j hq28 hj0 hrem
              exact absurd hq28 (by omega)
            | succ q28 ih28 =>
              intro j hq28 hj0 hrem H locs hS ls hl
              refine lv_iload hx hb dX7_addTask_28 (lv_at hl 4 rfl) ?_
              refine lv_aload_n hx hb dX7_addTask_30 rfl (lv_at hl 0 rfl) ?_
              refine db_get hx hb hts hown hK hS 0 0 (mm_k 0 rfl) rfl db_c7 0 (by decide) wd_441 rfl dX7_addTask_31 ?_
              refine lv_icmp_ge (tgt := 53) hx hb dX7_addTask_34 (by decide) (fun c34 => ?_) (fun c34 => ?_)
              · have hj : j = N 0 := by
                  rcases Nat.lt_or_ge j (N 0) with q9 | q9
                  · exact absurd c34 (nI_ge q9 hn0)
                  · omega
                exact K53 j (by omega) (by rw [hrem, hj, Nat.sub_self]; rfl) _ _ hS _ (lv_sub hl [0, 1, 2, 3, 4] rfl)
              · have hj : j < N 0 := by
                  rcases Nat.lt_or_ge j (N 0) with q9 | q9
                  · exact q9
                  · exact absurd (nI_le q9 (by omega)) c34
                refine lv_aload_n hx hb dX7_addTask_37 rfl (lv_at hl 0 rfl) ?_
                refine db_get hx hb hts hown hK hS 0 0 (mm_k 0 rfl) rfl db_c7 6 (by decide) wd_447 rfl dX7_addTask_38 ?_
                refine lv_iload hx hb dX7_addTask_41 (lv_at hl 4 rfl) ?_
                refine db_zld hx hb hK hS 6 0 (mm_k 6 rfl) rfl j rfl (Nat.lt_of_lt_of_le hj hN.2.1) (by decide) dX7_addTask_43 ?_
                refine lv_if_eq (tgt := 53) hx hb dX7_addTask_44 (by decide) (fun c44 => ?_) (fun c44 => ?_)
                · exact K53 j (by omega) (by rw [hrem, show N 0 - j = (N 0 - (j + 1)) + 1 by omega, db_fst, if_pos (by simpa using c44)]) _ _ hS _ (lv_sub hl [0, 1, 2, 3, 4] rfl)
                · refine lv_iinc (v := (nI (j + 1))) (lv' := [(4, .int (nI (j + 1))), (0, .ref (L 0 0)), (1, .int p1), (2, .int w), (3, .int d)]) hx hb dX7_addTask_47 hl (k := 4) rfl (nI_1 _) (by decide) rfl (fun ls hl => ?_)
                  refine lv_goto (tgt := 28) hx hb dX7_addTask_50 (by decide) ?_
                  exact ih28 (j + 1) (by omega) hj (by rw [hrem, show N 0 - j = (N 0 - (j + 1)) + 1 by omega, db_fst, if_neg (by simpa using c44)]) _ _ hS _ (lv_sub hl [1, 2, 3, 4, 0] rfl)
          exact K28 _ 0 (Nat.le_refl _) (Nat.zero_le _) rfl _ _ hS _ (lv_sub hl [1, 2, 3, 4, 0] rfl)
        · exact K22  (by simp [mm_wf, c1, c6, c11, Int32.not_le.mp c19]) _ _ hS _ (lv_sub hl [] rfl)

set_option maxHeartbeats 4000000 in
set_option maxRecDepth 100000 in
theorem c_X7_mayStand (l : Launch) (Γ : db_G) (N : Nat → Nat) (L : Nat → Nat → Nat) (X : db_X) (hN : bb_N N) (f : Int32) (t : Int32) (k : Int32) (s0 : Nat) (hs0 : s0 < N 2) : db_C l Γ yX7_mayStand cX7_mayStand 8 (some .boolean) (db_rm 0 0) [.ref (L 0 0), .int (nI s0), .int f, .int t, .int k] L mm_ok (mm_cel Γ N L) X (some (.int (mm_may X s0 f t k))) X := by
  have hn0 : N 0 < 2 ^ 31 := by have := hN.2.1; omega
  have hn1 : N 1 < 2 ^ 31 := by have := hN.2.2.1; omega
  have hn2 : N 2 < 2 ^ 31 := by have := hN.2.2.2.1; omega
  have hn3 : N 3 < 2 ^ 31 := by have := hN.2.2.2.2; omega
  refine db_introZ (by decide +kernel) (Nat.le_of_ble_eq_true rfl) mm_may01 ?_
  intro p e s m args below meth c A Q ls hC hS hl hret
  have hC : db_Cx p s m args meth c Γ RX7 cX7_mayStand 8 (some .boolean) := hC
  obtain ⟨hx, hb, hml, hr, hlocks, hown, hts, hK⟩ := id hC
  have hl : lv_has ls 8 [(0, .ref (L 0 0)), (1, .int (nI s0)), (2, .int f), (3, .int t), (4, .int k)] := hl
  have K31 : ∀ (h31 : mm_may X s0 f t k = 1) (H : Heap) (locs : List Loc) (hS : db_S Γ A s.heap L mm_ok (mm_cel Γ N L) X H locs) (ls : Array Slot) (hl : lv_has ls 8 []), W p l e (db_rm 0 0) s m args below meth c H locs 0 0 Q (F0 m 31 ls []) := by
    intro  h31 H locs hS ls hl
    refine lv_iconst (v := 1) hx hb dX7_mayStand_31 (by decide) ?_
    exact hret _ _ _ _ _ _ hS (h31.symm) (rfl) dX7_mayStand_32
  refine lv_aload_n hx hb dX7_mayStand_0 rfl (lv_at hl 0 rfl) ?_
  refine db_get hx hb hts hown hK hS 0 0 (mm_k 0 rfl) rfl db_c7 27 (by decide) wd_468 rfl dX7_mayStand_1 ?_
  refine lv_iload_n hx hb dX7_mayStand_4 rfl (lv_at hl 1 rfl) ?_
  refine db_ild hx hb hK hS 27 0 (mm_k 27 rfl) rfl s0 rfl (Nat.lt_of_lt_of_le hs0 hN.2.2.2.1) (by decide) dX7_mayStand_5 ?_
  refine lv_istore (lv' := [(5, .int (X 27 0 s0)), (0, .ref (L 0 0)), (1, .int (nI s0)), (2, .int f), (3, .int t), (4, .int k)]) hx hb dX7_mayStand_6 hl (by decide) rfl (fun ls hl => ?_)
  refine lv_iload hx hb dX7_mayStand_8 (lv_at hl 0 rfl) ?_
  refine lv_aload_n hx hb dX7_mayStand_10 rfl (lv_at hl 1 rfl) ?_
  refine db_get hx hb hts hown hK hS 0 0 (mm_k 0 rfl) rfl db_c7 28 (by decide) wd_469 rfl dX7_mayStand_11 ?_
  refine lv_iload_n hx hb dX7_mayStand_14 rfl (lv_at hl 2 rfl) ?_
  refine db_ild hx hb hK hS 28 0 (mm_k 28 rfl) rfl s0 rfl (Nat.lt_of_lt_of_le hs0 hN.2.2.2.1) (by decide) dX7_mayStand_15 ?_
  refine lv_iadd hx hb dX7_mayStand_16 ?_
  refine lv_istore (lv' := [(6, .int ((X 27 0 s0) + (X 28 0 s0))), (5, .int (X 27 0 s0)), (0, .ref (L 0 0)), (1, .int (nI s0)), (2, .int f), (3, .int t), (4, .int k)]) hx hb dX7_mayStand_17 hl (by decide) rfl (fun ls hl => ?_)
  refine lv_iload_n hx hb dX7_mayStand_19 rfl (lv_at hl 4 rfl) ?_
  refine lv_iload hx hb dX7_mayStand_20 (lv_at hl 0 rfl) ?_
  refine lv_icmp_ge (tgt := 31) hx hb dX7_mayStand_22 (by decide) (fun c22 => ?_) (fun c22 => ?_)
  · exact K31  (by rw [mm_may, if_pos c22]) _ _ hS _ (lv_sub hl [] rfl)
  · refine lv_iload hx hb dX7_mayStand_25 (lv_at hl 1 rfl) ?_
    refine lv_iload_n hx hb dX7_mayStand_27 rfl (lv_at hl 5 rfl) ?_
    refine lv_icmp_lt (tgt := 33) hx hb dX7_mayStand_28 (by decide) (fun c28 => ?_) (fun c28 => ?_)
    · have K62 : ∀ (b : Int32) (eb : b = mm_wi (X 27 0 s0) (X 27 0 s0 + X 28 0 s0) f t) (H : Heap) (locs : List Loc) (hS : db_S Γ A s.heap L mm_ok (mm_cel Γ N L) X H locs) (ls : Array Slot) (hl : lv_has ls 8 [(0, .ref (L 0 0)), (1, .int (nI s0)), (2, .int f), (3, .int t), (4, .int k), (5, .int (X 27 0 s0)), (6, .int (X 27 0 s0 + X 28 0 s0))]), W p l e (db_rm 0 0) s m args below meth c H locs 0 0 Q (F0 m 62 ls [.int b]) := by
        intro b eb H locs hS ls hl
        refine lv_istore (lv' := [(7, .int b), (0, .ref (L 0 0)), (1, .int (nI s0)), (2, .int f), (3, .int t), (4, .int k), (5, .int (X 27 0 s0)), (6, .int (X 27 0 s0 + X 28 0 s0))]) hx hb dX7_mayStand_62 hl (by decide) rfl (fun ls hl => ?_)
        refine lv_iload hx hb dX7_mayStand_64 (lv_at hl 0 rfl) ?_
        refine lv_if_eq (tgt := 84) hx hb dX7_mayStand_66 (by decide) (fun c66 => ?_) (fun c66 => ?_)
        · refine lv_iconst (v := 0) hx hb dX7_mayStand_84 (by decide) ?_
          exact hret _ _ _ _ _ _ hS (by rw [mm_may, if_neg c22, if_pos c28, if_pos (eb.symm.trans c66)]) (rfl) dX7_mayStand_85
        · refine lv_aload_n hx hb dX7_mayStand_69 rfl (lv_at hl 1 rfl) ?_
          refine db_get hx hb hts hown hK hS 0 0 (mm_k 0 rfl) rfl db_c7 26 (by decide) wd_467 rfl dX7_mayStand_70 ?_
          refine lv_iload_n hx hb dX7_mayStand_73 rfl (lv_at hl 2 rfl) ?_
          refine db_ild hx hb hK hS 26 0 (mm_k 26 rfl) rfl s0 rfl (Nat.lt_of_lt_of_le hs0 hN.2.2.2.1) (by decide) dX7_mayStand_74 ?_
          refine lv_iload hx hb dX7_mayStand_75 (lv_at hl 5 rfl) ?_
          refine lv_icmp_eq (tgt := 84) hx hb dX7_mayStand_77 (by decide) (fun c77 => ?_) (fun c77 => ?_)
          · refine lv_iconst (v := 0) hx hb dX7_mayStand_84 (by decide) ?_
            exact hret _ _ _ _ _ _ hS (by rw [mm_may, if_neg c22, if_pos c28, if_neg (fun q => c66 (eb.trans q)), if_pos c77]) (rfl) dX7_mayStand_85
          · refine lv_iconst (v := 1) hx hb dX7_mayStand_80 (by decide) ?_
            refine lv_goto (tgt := 85) hx hb dX7_mayStand_81 (by decide) ?_
            exact hret _ _ _ _ _ _ hS (by rw [mm_may, if_neg c22, if_pos c28, if_neg (fun q => c66 (eb.trans q)), if_neg c77]) (rfl) dX7_mayStand_85
      have K45 : ∀ (h45 : mm_wi (X 27 0 s0) (X 27 0 s0 + X 28 0 s0) f t = if X 27 0 s0 < f then 0 else if t < X 27 0 s0 + X 28 0 s0 then 0 else 1) (H : Heap) (locs : List Loc) (hS : db_S Γ A s.heap L mm_ok (mm_cel Γ N L) X H locs) (ls : Array Slot) (hl : lv_has ls 8 [(0, .ref (L 0 0)), (1, .int (nI s0)), (2, .int f), (3, .int t), (4, .int k), (5, .int (X 27 0 s0)), (6, .int (X 27 0 s0 + X 28 0 s0))]), W p l e (db_rm 0 0) s m args below meth c H locs 0 0 Q (F0 m 45 ls []) := by
        intro  h45 H locs hS ls hl
        refine lv_iload hx hb dX7_mayStand_45 (lv_at hl 5 rfl) ?_
        refine lv_iload_n hx hb dX7_mayStand_47 rfl (lv_at hl 2 rfl) ?_
        refine lv_icmp_lt (tgt := 61) hx hb dX7_mayStand_48 (by decide) (fun c48 => ?_) (fun c48 => ?_)
        · refine lv_iconst (v := 0) hx hb dX7_mayStand_61 (by decide) ?_
          exact K62 0 (by rw [h45, if_pos c48]) _ _ hS _ (lv_sub hl [0, 1, 2, 3, 4, 5, 6] rfl)
        · refine lv_iload hx hb dX7_mayStand_51 (lv_at hl 6 rfl) ?_
          refine lv_iload_n hx hb dX7_mayStand_53 rfl (lv_at hl 3 rfl) ?_
          refine lv_icmp_gt (tgt := 61) hx hb dX7_mayStand_54 (by decide) (fun c54 => ?_) (fun c54 => ?_)
          · refine lv_iconst (v := 0) hx hb dX7_mayStand_61 (by decide) ?_
            exact K62 0 (by rw [h45, if_neg c48, if_pos c54]) _ _ hS _ (lv_sub hl [0, 1, 2, 3, 4, 5, 6] rfl)
          · refine lv_iconst (v := 1) hx hb dX7_mayStand_57 (by decide) ?_
            refine lv_goto (tgt := 62) hx hb dX7_mayStand_58 (by decide) ?_
            exact K62 1 (by rw [h45, if_neg c48, if_neg c54]) _ _ hS _ (lv_sub hl [0, 1, 2, 3, 4, 5, 6] rfl)
      refine lv_iload_n hx hb dX7_mayStand_33 rfl (lv_at hl 4 rfl) ?_
      refine lv_iload hx hb dX7_mayStand_34 (lv_at hl 1 rfl) ?_
      refine lv_icmp_lt (tgt := 45) hx hb dX7_mayStand_36 (by decide) (fun c36 => ?_) (fun c36 => ?_)
      · exact K45  (by rw [mm_wi, if_pos c36]) _ _ hS _ (lv_sub hl [2, 3, 4, 5, 6, 1, 0] rfl)
      · refine lv_iload_n hx hb dX7_mayStand_39 rfl (lv_at hl 5 rfl) ?_
        refine lv_iload hx hb dX7_mayStand_40 (lv_at hl 0 rfl) ?_
        refine lv_icmp_le (tgt := 57) hx hb dX7_mayStand_42 (by decide) (fun c42 => ?_) (fun c42 => ?_)
        · refine lv_iconst (v := 1) hx hb dX7_mayStand_57 (by decide) ?_
          refine lv_goto (tgt := 62) hx hb dX7_mayStand_58 (by decide) ?_
          exact K62 1 (by rw [mm_wi, if_neg c36, if_pos c42]) _ _ hS _ (lv_sub hl [2, 3, 4, 5, 6, 1, 0] rfl)
        · exact K45  (by rw [mm_wi, if_neg c36, if_neg c42]) _ _ hS _ (lv_sub hl [2, 3, 4, 5, 6, 1, 0] rfl)
    · exact K31  (by rw [mm_may, if_neg c22, if_neg c28]) _ _ hS _ (lv_sub hl [] rfl)

set_option maxHeartbeats 4000000 in
set_option maxRecDepth 100000 in
theorem c_X7_addSection (l : Launch) (Γ : db_G) (N : Nat → Nat) (L : Nat → Nat → Nat) (X : db_X) (hN : bb_N N) (t : Int32) (b : Int32) (k : Int32) (g : Int32) (sz : Nat) (hI : mm_I N sz X) : db_C l Γ yX7_addSection cX7_addSection 6 (some .boolean) (db_rm 1 27) [.ref (L 0 0), .int t, .int b, .int k, .int g] L mm_ok (mm_cel Γ N L) X (some (.int ((mm_addSec N X sz t b k g).1))) ((mm_addSec N X sz t b k g).2) := by
  have hn0 : N 0 < 2 ^ 31 := by have := hN.2.1; omega
  have hn1 : N 1 < 2 ^ 31 := by have := hN.2.2.1; omega
  have hn2 : N 2 < 2 ^ 31 := by have := hN.2.2.2.1; omega
  have hn3 : N 3 < 2 ^ 31 := by have := hN.2.2.2.2; omega
  refine db_introZ (by decide +kernel) (Nat.le_of_ble_eq_true rfl) mm_addSec01 ?_
  intro p e s m args below meth c A Q ls hC hS hl hret
  have hC : db_Cx p s m args meth c Γ RX7 cX7_addSection 6 (some .boolean) := hC
  obtain ⟨hx, hb, hml, hr, hlocks, hown, hts, hK⟩ := id hC
  have hl : lv_has ls 6 [(0, .ref (L 0 0)), (1, .int t), (2, .int b), (3, .int k), (4, .int g)] := hl
  have hsz : sz < 2 ^ 31 := by have := hI.2.2.2.1; omega
  have K26 : ∀ (h26 : mm_asg N X t b k g = 0) (H : Heap) (locs : List Loc) (hS : db_S Γ A s.heap L mm_ok (mm_cel Γ N L) X H locs) (ls : Array Slot) (hl : lv_has ls 6 []), W p l e (db_rm 1 27) s m args below meth c H locs 0 0 Q (F0 m 26 ls []) := by
    intro  h26 H locs hS ls hl
    refine lv_iconst (v := 0) hx hb dX7_addSection_26 (by decide) ?_
    exact hret _ _ _ _ _ _ hS (by rw [mm_addSec, if_pos h26]) (by rw [mm_addSec, if_pos h26]) dX7_addSection_27
  refine lv_aload_n hx hb dX7_addSection_0 rfl (lv_at hl 0 rfl) ?_
  refine lv_iload_n hx hb dX7_addSection_1 rfl (lv_at hl 1 rfl) ?_
  refine db_cV (As := [.int t]) (rest := []) (st1 := [.int (mm_isLive N X t)]) hC hS 0 0 (mm_k 0 rfl) rfl db_c7 (c_X7_isLive l Γ N L X hN t ) (cw_X7_isLive (Nat.le_of_ble_eq_true rfl) (Nat.le_of_ble_eq_true rfl)) wd_559 wd_561 ws_34 rfl hl.1 rfl (Nat.le_of_ble_eq_true rfl) dX7_addSection_2 ⟨Nat.le_of_ble_eq_true rfl, Nat.le_of_ble_eq_true rfl⟩ rfl (fun H locs hS => ?_)
  refine lv_if_eq (tgt := 26) hx hb dX7_addSection_5 (by decide) (fun c5 => ?_) (fun c5 => ?_)
  · exact K26  (by rw [mm_asg, if_pos c5]) _ _ hS _ (lv_sub hl [] rfl)
  · refine lv_aload_n hx hb dX7_addSection_8 rfl (lv_at hl 0 rfl) ?_
    refine lv_iload_n hx hb dX7_addSection_9 rfl (lv_at hl 3 rfl) ?_
    refine db_cV (As := [.int k]) (rest := []) (st1 := [.int (bb_isLock N k)]) hC hS 0 0 (mm_k 0 rfl) rfl db_c7 (c_X7_isLock l Γ N L X hN k ) (cw_X7_isLock (Nat.le_of_ble_eq_true rfl) (Nat.le_of_ble_eq_true rfl)) wd_563 wd_565 ws_35 rfl hl.1 rfl (Nat.le_of_ble_eq_true rfl) dX7_addSection_10 ⟨Nat.le_of_ble_eq_true rfl, Nat.le_of_ble_eq_true rfl⟩ rfl (fun H locs hS => ?_)
    refine lv_if_eq (tgt := 26) hx hb dX7_addSection_13 (by decide) (fun c13 => ?_) (fun c13 => ?_)
    · exact K26  (by rw [mm_asg, if_neg c5, if_pos c13]) _ _ hS _ (lv_sub hl [] rfl)
    · refine lv_iload_n hx hb dX7_addSection_16 rfl (lv_at hl 2 rfl) ?_
      refine lv_if_lt (tgt := 26) hx hb dX7_addSection_17 (by decide) (fun c17 => ?_) (fun c17 => ?_)
      · exact K26  (by rw [mm_asg, if_neg c5, if_neg c13, if_pos c17]) _ _ hS _ (lv_sub hl [] rfl)
      · refine lv_iload hx hb dX7_addSection_20 (lv_at hl 4 rfl) ?_
        refine lv_iconst (v := 1) hx hb dX7_addSection_22 (by decide) ?_
        refine lv_icmp_ge (tgt := 28) hx hb dX7_addSection_23 (by decide) (fun c23 => ?_) (fun c23 => ?_)
        · obtain ⟨j, hj, rfl⟩ := mm_isLive_ix hn0 c5
          have hkin : db_in k (N 1) := bb_isLock_ix hn1 c13
          have K72 : ∀ (h72 : mm_asg N X (nI j) b k g = 0) (H : Heap) (locs : List Loc) (hS : db_S Γ A s.heap L mm_ok (mm_cel Γ N L) X H locs) (ls : Array Slot) (hl : lv_has ls 6 []), W p l e (db_rm 1 27) s m args below meth c H locs 0 0 Q (F0 m 72 ls []) := by
            intro  h72 H locs hS ls hl
            refine lv_iconst (v := 0) hx hb dX7_addSection_72 (by decide) ?_
            exact hret _ _ _ _ _ _ hS (by rw [mm_addSec, if_pos h72]) (by rw [mm_addSec, if_pos h72]) dX7_addSection_73
          refine lv_iload hx hb dX7_addSection_28 (lv_at hl 4 rfl) ?_
          refine lv_aload_n hx hb dX7_addSection_30 rfl (lv_at hl 0 rfl) ?_
          refine db_get hx hb hts hown hK hS 0 0 (mm_k 0 rfl) rfl db_c7 8 (by decide) wd_449 rfl dX7_addSection_31 ?_
          refine lv_iload_n hx hb dX7_addSection_34 rfl (lv_at hl 1 rfl) ?_
          refine db_ild hx hb hK hS 8 0 (mm_k 8 rfl) rfl j rfl (Nat.lt_of_lt_of_le hj hN.2.1) (by decide) dX7_addSection_35 ?_
          refine lv_icmp_gt (tgt := 72) hx hb dX7_addSection_36 (by decide) (fun c36 => ?_) (fun c36 => ?_)
          · exact K72  (by rw [mm_asg, if_neg c5, if_neg c13, if_neg c17, if_neg (fun q => q c23), db_nIc hj hn0, if_pos c36]) _ _ hS _ (lv_sub hl [] rfl)
          · refine lv_iload_n hx hb dX7_addSection_39 rfl (lv_at hl 2 rfl) ?_
            refine lv_aload_n hx hb dX7_addSection_40 rfl (lv_at hl 0 rfl) ?_
            refine db_get hx hb hts hown hK hS 0 0 (mm_k 0 rfl) rfl db_c7 8 (by decide) wd_449 rfl dX7_addSection_41 ?_
            refine lv_iload_n hx hb dX7_addSection_44 rfl (lv_at hl 1 rfl) ?_
            refine db_ild hx hb hK hS 8 0 (mm_k 8 rfl) rfl j rfl (Nat.lt_of_lt_of_le hj hN.2.1) (by decide) dX7_addSection_45 ?_
            refine lv_iload hx hb dX7_addSection_46 (lv_at hl 4 rfl) ?_
            refine lv_isub hx hb dX7_addSection_48 ?_
            refine lv_icmp_gt (tgt := 72) hx hb dX7_addSection_49 (by decide) (fun c49 => ?_) (fun c49 => ?_)
            · exact K72  (by rw [mm_asg, if_neg c5, if_neg c13, if_neg c17, if_neg (fun q => q c23), db_nIc hj hn0, if_neg c36, if_pos c49]) _ _ hS _ (lv_sub hl [] rfl)
            · refine lv_aload_n hx hb dX7_addSection_52 rfl (lv_at hl 0 rfl) ?_
              refine db_get hx hb hts hown hK hS 0 0 (mm_k 0 rfl) rfl db_c7 24 (by decide) wd_465 rfl dX7_addSection_53 ?_
              refine lv_aload_n hx hb dX7_addSection_56 rfl (lv_at hl 0 rfl) ?_
              refine db_get hx hb hts hown hK hS 0 0 (mm_k 0 rfl) rfl db_c7 2 (by decide) wd_443 rfl dX7_addSection_57 ?_
              refine lv_icmp_eq (tgt := 72) hx hb dX7_addSection_60 (by decide) (fun c60 => ?_) (fun c60 => ?_)
              · exact K72  (by rw [mm_asg, if_neg c5, if_neg c13, if_neg c17, if_neg (fun q => q c23), db_nIc hj hn0, if_neg c36, if_neg c49, if_pos c60]) _ _ hS _ (lv_sub hl [] rfl)
              · refine lv_aload_n hx hb dX7_addSection_63 rfl (lv_at hl 0 rfl) ?_
                refine db_get hx hb hts hown hK hS 0 0 (mm_k 0 rfl) rfl db_c7 17 (by decide) wd_458 rfl dX7_addSection_64 ?_
                refine lv_iload_n hx hb dX7_addSection_67 rfl (lv_at hl 1 rfl) ?_
                refine db_zld hx hb hK hS 17 0 (mm_k 17 rfl) rfl j rfl (Nat.lt_of_lt_of_le hj hN.2.1) (by decide) dX7_addSection_68 ?_
                refine lv_if_eq (tgt := 74) hx hb dX7_addSection_69 (by decide) (fun c69 => ?_) (fun c69 => ?_)
                · have hg1 : ¬ mm_asg N X (nI j) b k g = 0 := by rw [mm_asg, if_neg c5, if_neg c13, if_neg c17, if_neg (fun q => q c23), db_nIc hj hn0, if_neg c36, if_neg c49, if_neg c60, if_pos c69]; decide
                  have hszN : sz < N 2 := by
                    rcases Nat.lt_or_ge sz (N 2) with q9 | q9
                    · exact q9
                    · exact absurd (show X 0 0 24 = nI (N 2) by rw [hI.2.2.1, show sz = N 2 by have := hI.2.2.2.1; omega]) c60
                  refine lv_iconst (v := 0) hx hb dX7_addSection_74 (by decide) ?_
                  refine lv_istore (lv' := [(5, .int 0), (0, .ref (L 0 0)), (1, .int (nI j)), (2, .int b), (3, .int k), (4, .int g)]) hx hb dX7_addSection_75 hl (by decide) rfl (fun ls hl => ?_)
                  have K77 : ∀ (q : Nat) (u : Nat) (hq : sz + 1 - u ≤ q) (hu0 : u ≤ sz) (hrem : mm_asF X (nI j) b k g sz 0 = mm_asF X (nI j) b k g (sz - u) u) (H : Heap) (locs : List Loc) (hS : db_S Γ A s.heap L mm_ok (mm_cel Γ N L) X H locs) (ls : Array Slot) (hl : lv_has ls 6 [(0, .ref (L 0 0)), (1, .int (nI j)), (2, .int b), (3, .int k), (4, .int g), (5, .int (nI u))]), W p l e (db_rm 1 27) s m args below meth c H locs 0 0 Q (F0 m 77 ls []) := by
                    intro q77
                    induction q77 with
                    | zero =>
                      intro u hq77 hu0 hrem
                      exact absurd hq77 (by omega)
                    | succ q77 ih77 =>
                      intro u hq77 hu0 hrem H locs hS ls hl
                      refine lv_iload hx hb dX7_addSection_77 (lv_at hl 5 rfl) ?_
                      refine lv_aload_n hx hb dX7_addSection_79 rfl (lv_at hl 0 rfl) ?_
                      refine db_get hx hb hts hown hK hS 0 0 (mm_k 0 rfl) rfl db_c7 24 (by decide) wd_465 rfl dX7_addSection_80 ?_
                      rw [show X 0 0 24 = nI sz from hI.2.2.1]
                      refine lv_icmp_ge (tgt := 120) hx hb dX7_addSection_83 (by decide) (fun c83 => ?_) (fun c83 => ?_)
                      · have hu : u = sz := by
                          rcases Nat.lt_or_ge u (sz) with q9 | q9
                          · exact absurd c83 (nI_ge q9 hsz)
                          · omega
                        refine lv_aload_n hx hb dX7_addSection_120 rfl (lv_at hl 0 rfl) ?_
                        refine db_get hx hb hts hown hK hS 0 0 (mm_k 0 rfl) rfl db_c7 25 (by decide) wd_466 rfl dX7_addSection_121 ?_
                        refine lv_aload_n hx hb dX7_addSection_124 rfl (lv_at hl 0 rfl) ?_
                        refine db_get hx hb hts hown hK hS 0 0 (mm_k 0 rfl) rfl db_c7 24 (by decide) wd_465 rfl dX7_addSection_125 ?_
                        have hz128 : X 0 0 24 = nI sz := by exact hI.2.2.1
                        refine lv_iload_n hx hb dX7_addSection_128 rfl (lv_at hl 1 rfl) ?_
                        refine db_ist hx hb hK hS 25 0 (mm_k 25 rfl) (fun _ => rfl) sz hz128 (Nat.lt_of_lt_of_le hszN hN.2.2.2.1) (by decide) dX7_addSection_129 (fun H locs hS => ?_)
                        obtain ⟨X1, eX1⟩ : ∃ z, z = db_up X 25 0 sz (nI j) := ⟨_, rfl⟩
                        rw [← eX1] at hS
                        refine lv_aload_n hx hb dX7_addSection_130 rfl (lv_at hl 0 rfl) ?_
                        refine db_get hx hb hts hown hK hS 0 0 (mm_k 0 rfl) rfl db_c7 26 (by decide) wd_467 rfl dX7_addSection_131 ?_
                        refine lv_aload_n hx hb dX7_addSection_134 rfl (lv_at hl 0 rfl) ?_
                        refine db_get hx hb hts hown hK hS 0 0 (mm_k 0 rfl) rfl db_c7 24 (by decide) wd_465 rfl dX7_addSection_135 ?_
                        have hz138 : X1 0 0 24 = nI sz := by rw [eX1]; simp [db_up]; exact hI.2.2.1
                        refine lv_iload_n hx hb dX7_addSection_138 rfl (lv_at hl 3 rfl) ?_
                        refine db_ist hx hb hK hS 26 0 (mm_k 26 rfl) (fun _ => rfl) sz hz138 (Nat.lt_of_lt_of_le hszN hN.2.2.2.1) (by decide) dX7_addSection_139 (fun H locs hS => ?_)
                        obtain ⟨X2, eX2⟩ : ∃ z, z = db_up X1 26 0 sz k := ⟨_, rfl⟩
                        rw [← eX2] at hS
                        refine lv_aload_n hx hb dX7_addSection_140 rfl (lv_at hl 0 rfl) ?_
                        refine db_get hx hb hts hown hK hS 0 0 (mm_k 0 rfl) rfl db_c7 27 (by decide) wd_468 rfl dX7_addSection_141 ?_
                        refine lv_aload_n hx hb dX7_addSection_144 rfl (lv_at hl 0 rfl) ?_
                        refine db_get hx hb hts hown hK hS 0 0 (mm_k 0 rfl) rfl db_c7 24 (by decide) wd_465 rfl dX7_addSection_145 ?_
                        have hz148 : X2 0 0 24 = nI sz := by rw [eX2, eX1]; simp [db_up]; exact hI.2.2.1
                        refine lv_iload_n hx hb dX7_addSection_148 rfl (lv_at hl 2 rfl) ?_
                        refine db_ist hx hb hK hS 27 0 (mm_k 27 rfl) (fun _ => rfl) sz hz148 (Nat.lt_of_lt_of_le hszN hN.2.2.2.1) (by decide) dX7_addSection_149 (fun H locs hS => ?_)
                        obtain ⟨X3, eX3⟩ : ∃ z, z = db_up X2 27 0 sz b := ⟨_, rfl⟩
                        rw [← eX3] at hS
                        refine lv_aload_n hx hb dX7_addSection_150 rfl (lv_at hl 0 rfl) ?_
                        refine db_get hx hb hts hown hK hS 0 0 (mm_k 0 rfl) rfl db_c7 28 (by decide) wd_469 rfl dX7_addSection_151 ?_
                        refine lv_aload_n hx hb dX7_addSection_154 rfl (lv_at hl 0 rfl) ?_
                        refine db_get hx hb hts hown hK hS 0 0 (mm_k 0 rfl) rfl db_c7 24 (by decide) wd_465 rfl dX7_addSection_155 ?_
                        have hz158 : X3 0 0 24 = nI sz := by rw [eX3, eX2, eX1]; simp [db_up]; exact hI.2.2.1
                        refine lv_iload hx hb dX7_addSection_158 (lv_at hl 4 rfl) ?_
                        refine db_ist hx hb hK hS 28 0 (mm_k 28 rfl) (fun _ => rfl) sz hz158 (Nat.lt_of_lt_of_le hszN hN.2.2.2.1) (by decide) dX7_addSection_160 (fun H locs hS => ?_)
                        obtain ⟨X4, eX4⟩ : ∃ z, z = db_up X3 28 0 sz g := ⟨_, rfl⟩
                        rw [← eX4] at hS
                        refine lv_aload_n hx hb dX7_addSection_161 rfl (lv_at hl 0 rfl) ?_
                        refine lv_dup hx hb dX7_addSection_162 rfl ?_
                        refine db_get hx hb hts hown hK hS 0 0 (mm_k 0 rfl) rfl db_c7 24 (by decide) wd_465 rfl dX7_addSection_163 ?_
                        refine lv_iconst (v := 1) hx hb dX7_addSection_166 (by decide) ?_
                        refine lv_iadd hx hb dX7_addSection_167 ?_
                        refine db_put hx hb hts hown hK hS 0 0 (mm_k 0 rfl) rfl db_c7 24 (by decide) wd_465 rfl rfl rfl (Nat.le_of_ble_eq_true rfl) rfl dX7_addSection_168 (fun H locs hS => ?_)
                        obtain ⟨X5, eX5⟩ : ∃ z, z = db_up X4 0 0 24 ((X4 0 0 24) + 1) := ⟨_, rfl⟩
                        rw [← eX5] at hS
                        refine lv_iconst (v := 1) hx hb dX7_addSection_171 (by decide) ?_
                        exact hret _ _ _ _ _ _ hS (by rw [mm_addSec, if_neg hg1, if_neg (by rw [hrem, hu, Nat.sub_self, mm_asF]; decide)]) (by rw [mm_addSec, if_neg hg1, if_neg (by rw [hrem, hu, Nat.sub_self, mm_asF]; decide), eX5, eX4, eX3, eX2, eX1]; rfl) dX7_addSection_172
                      · have hu : u < sz := by
                          rcases Nat.lt_or_ge u (sz) with q9 | q9
                          · exact q9
                          · exact absurd (nI_le q9 (by omega)) c83
                        refine lv_aload_n hx hb dX7_addSection_86 rfl (lv_at hl 0 rfl) ?_
                        refine db_get hx hb hts hown hK hS 0 0 (mm_k 0 rfl) rfl db_c7 25 (by decide) wd_466 rfl dX7_addSection_87 ?_
                        refine lv_iload hx hb dX7_addSection_90 (lv_at hl 5 rfl) ?_
                        refine db_ild hx hb hK hS 25 0 (mm_k 25 rfl) rfl u rfl (Nat.lt_of_lt_of_le (Nat.lt_trans hu hszN) hN.2.2.2.1) (by decide) dX7_addSection_92 ?_
                        refine lv_iload_n hx hb dX7_addSection_93 rfl (lv_at hl 1 rfl) ?_
                        refine lv_icmp_ne (tgt := 114) hx hb dX7_addSection_94 (by decide) (fun c94 => ?_) (fun c94 => ?_)
                        · refine lv_iinc (v := (nI (u + 1))) (lv' := [(5, .int (nI (u + 1))), (0, .ref (L 0 0)), (1, .int (nI j)), (2, .int b), (3, .int k), (4, .int g)]) hx hb dX7_addSection_114 hl (k := 5) rfl (nI_1 _) (by decide) rfl (fun ls hl => ?_)
                          refine lv_goto (tgt := 77) hx hb dX7_addSection_117 (by decide) ?_
                          exact ih77 (u + 1) (by omega) hu (by rw [hrem, show sz - u = (sz - (u + 1)) + 1 by omega, mm_asF, if_pos c94]) _ _ hS _ (lv_sub hl [1, 2, 3, 4, 5, 0] rfl)
                        · refine lv_aload_n hx hb dX7_addSection_97 rfl (lv_at hl 0 rfl) ?_
                          refine lv_iload hx hb dX7_addSection_98 (lv_at hl 5 rfl) ?_
                          refine lv_iload_n hx hb dX7_addSection_100 rfl (lv_at hl 2 rfl) ?_
                          refine lv_iload_n hx hb dX7_addSection_101 rfl (lv_at hl 2 rfl) ?_
                          refine lv_iload hx hb dX7_addSection_102 (lv_at hl 4 rfl) ?_
                          refine lv_iadd hx hb dX7_addSection_104 ?_
                          refine lv_iload_n hx hb dX7_addSection_105 rfl (lv_at hl 3 rfl) ?_
                          refine db_cV (As := [.int (nI u), .int b, .int (b + g), .int k]) (rest := []) (st1 := [.int (mm_may X u b (b + g) k)]) hC hS 0 0 (mm_k 0 rfl) rfl db_c7 (c_X7_mayStand l Γ N L X hN b (b + g) k u (Nat.lt_trans hu hszN)) (cw_X7_mayStand (Nat.le_of_ble_eq_true rfl) (Nat.le_of_ble_eq_true rfl)) wd_567 wd_569 ws_36 rfl hl.1 rfl (Nat.le_of_ble_eq_true rfl) dX7_addSection_106 ⟨Nat.le_of_ble_eq_true rfl, Nat.le_of_ble_eq_true rfl⟩ rfl (fun H locs hS => ?_)
                          refine lv_if_ne (tgt := 114) hx hb dX7_addSection_109 (by decide) (fun c109 => ?_) (fun c109 => ?_)
                          · refine lv_iinc (v := (nI (u + 1))) (lv' := [(5, .int (nI (u + 1))), (0, .ref (L 0 0)), (1, .int (nI j)), (2, .int b), (3, .int k), (4, .int g)]) hx hb dX7_addSection_114 hl (k := 5) rfl (nI_1 _) (by decide) rfl (fun ls hl => ?_)
                            refine lv_goto (tgt := 77) hx hb dX7_addSection_117 (by decide) ?_
                            exact ih77 (u + 1) (by omega) hu (by rw [hrem, show sz - u = (sz - (u + 1)) + 1 by omega, mm_asF, if_neg (fun q => q c94), if_pos c109]) _ _ hS _ (lv_sub hl [1, 2, 3, 4, 5, 0] rfl)
                          · refine lv_iconst (v := 0) hx hb dX7_addSection_112 (by decide) ?_
                            exact hret _ _ _ _ _ _ hS (by rw [mm_addSec, if_neg hg1, if_pos (by rw [hrem, show sz - u = (sz - (u + 1)) + 1 by omega, mm_asF, if_neg (fun q => q c94), if_neg (fun q => q c109)])]) (by rw [mm_addSec, if_neg hg1, if_pos (by rw [hrem, show sz - u = (sz - (u + 1)) + 1 by omega, mm_asF, if_neg (fun q => q c94), if_neg (fun q => q c109)])]) dX7_addSection_113
                  exact K77 _ 0 (Nat.le_refl _) (Nat.zero_le _) rfl _ _ hS _ (lv_sub hl [1, 2, 3, 4, 5, 0] rfl)
                · exact K72  (by rw [mm_asg, if_neg c5, if_neg c13, if_neg c17, if_neg (fun q => q c23), db_nIc hj hn0, if_neg c36, if_neg c49, if_neg c60, if_neg c69]) _ _ hS _ (lv_sub hl [] rfl)
        · exact K26  (by rw [mm_asg, if_neg c5, if_neg c13, if_neg c17, if_pos c23]) _ _ hS _ (lv_sub hl [] rfl)

set_option maxHeartbeats 4000000 in
set_option maxRecDepth 100000 in
theorem c_X7_removeTask (l : Launch) (Γ : db_G) (N : Nat → Nat) (L : Nat → Nat → Nat) (X : db_X) (hN : bb_N N) (t : Int32) (sz : Nat) (hI : mm_I N sz X) : db_C l Γ yX7_removeTask cX7_removeTask 4 (some .boolean) (db_rm 6 132) [.ref (L 0 0), .int t] L mm_ok (mm_cel Γ N L) X (some (.int ((mm_remove N X sz t).1))) ((mm_remove N X sz t).2) := by
  have hn0 : N 0 < 2 ^ 31 := by have := hN.2.1; omega
  have hn1 : N 1 < 2 ^ 31 := by have := hN.2.2.1; omega
  have hn2 : N 2 < 2 ^ 31 := by have := hN.2.2.2.1; omega
  have hn3 : N 3 < 2 ^ 31 := by have := hN.2.2.2.2; omega
  refine db_introZ (by decide +kernel) (Nat.le_of_ble_eq_true rfl) mm_remove01 ?_
  intro p e s m args below meth c A Q ls hC hS hl hret
  have hC : db_Cx p s m args meth c Γ RX7 cX7_removeTask 4 (some .boolean) := hC
  obtain ⟨hx, hb, hml, hr, hlocks, hown, hts, hK⟩ := id hC
  have hl : lv_has ls 4 [(0, .ref (L 0 0)), (1, .int t)] := hl
  have hsz : sz < 2 ^ 31 := by have := hI.2.2.2.1; omega
  refine lv_aload_n hx hb dX7_removeTask_0 rfl (lv_at hl 0 rfl) ?_
  refine lv_iload_n hx hb dX7_removeTask_1 rfl (lv_at hl 1 rfl) ?_
  refine db_cV (As := [.int t]) (rest := []) (st1 := [.int (mm_isLive N X t)]) hC hS 0 0 (mm_k 0 rfl) rfl db_c7 (c_X7_isLive l Γ N L X hN t ) (cw_X7_isLive (Nat.le_of_ble_eq_true rfl) (Nat.le_of_ble_eq_true rfl)) wd_559 wd_561 ws_34 rfl hl.1 rfl (Nat.le_of_ble_eq_true rfl) dX7_removeTask_2 ⟨Nat.le_of_ble_eq_true rfl, Nat.le_of_ble_eq_true rfl⟩ rfl (fun H locs hS => ?_)
  refine lv_if_ne (tgt := 10) hx hb dX7_removeTask_5 (by decide) (fun c5 => ?_) (fun c5 => ?_)
  · obtain ⟨j, hj, rfl⟩ := mm_isLive_ix hn0 c5
    have K24 : ∀ (Xd : db_X) (eXd : Xd = mm_rm1 N X j) (H : Heap) (locs : List Loc) (hS : db_S Γ A s.heap L mm_ok (mm_cel Γ N L) Xd H locs) (ls : Array Slot) (hl : lv_has ls 4 [(0, .ref (L 0 0)), (1, .int (nI j))]), W p l e (db_rm 6 132) s m args below meth c H locs 0 0 Q (F0 m 24 ls []) := by
      intro Xd eXd H locs hS ls hl
      have hId : mm_I N sz Xd := by
        rw [eXd]
        unfold mm_rm1
        split
        · exact hI
        · exact hI.drop
      refine lv_aload_n hx hb dX7_removeTask_24 rfl (lv_at hl 0 rfl) ?_
      refine db_get hx hb hts hown hK hS 0 0 (mm_k 0 rfl) rfl db_c7 6 (by decide) wd_447 rfl dX7_removeTask_25 ?_
      refine lv_iload_n hx hb dX7_removeTask_28 rfl (lv_at hl 1 rfl) ?_
      refine lv_iconst (v := 0) hx hb dX7_removeTask_29 (by decide) ?_
      refine db_zst hx hb hK hS 6 0 (mm_k 6 rfl) (fun _ => rfl) j rfl (Nat.lt_of_lt_of_le hj hN.2.1) (by decide) (Or.inl rfl) dX7_removeTask_30 (fun H locs hS => ?_)
      obtain ⟨X1, eX1⟩ : ∃ z, z = db_up Xd 6 0 j 0 := ⟨_, rfl⟩
      rw [← eX1] at hS
      refine lv_iconst (v := 0) hx hb dX7_removeTask_31 (by decide) ?_
      refine lv_istore_n (lv' := [(2, .int 0), (0, .ref (L 0 0)), (1, .int (nI j))]) hx hb dX7_removeTask_32 rfl hl (by decide) rfl (fun ls hl => ?_)
      refine lv_iconst (v := 0) hx hb dX7_removeTask_33 (by decide) ?_
      refine lv_istore_n (lv' := [(3, .int 0), (2, .int 0), (0, .ref (L 0 0)), (1, .int (nI j))]) hx hb dX7_removeTask_34 rfl hl (by decide) rfl (fun ls hl => ?_)
      have K35 : ∀ (q : Nat) (u : Nat) (v : Nat) (Xa : db_X) (hq : sz + 1 - u ≤ q) (hu0 : u ≤ sz) (hv0 : v ≤ u) (hIa : mm_I N sz Xa) (hrem : mm_rmF (nI j) sz 0 0 (db_up Xd 6 0 j 0) = mm_rmF (nI j) (sz - u) u v Xa) (H : Heap) (locs : List Loc) (hS : db_S Γ A s.heap L mm_ok (mm_cel Γ N L) Xa H locs) (ls : Array Slot) (hl : lv_has ls 4 [(0, .ref (L 0 0)), (1, .int (nI j)), (2, .int (nI v)), (3, .int (nI u))]), W p l e (db_rm 6 132) s m args below meth c H locs 0 0 Q (F0 m 35 ls []) := by
        intro q35
        induction q35 with
        | zero =>
          intro u v Xa hq35 hu0 hv0 hIa hrem
          exact absurd hq35 (by omega)
        | succ q35 ih35 =>
          intro u v Xa hq35 hu0 hv0 hIa hrem H locs hS ls hl
          refine lv_iload_n hx hb dX7_removeTask_35 rfl (lv_at hl 3 rfl) ?_
          refine lv_aload_n hx hb dX7_removeTask_36 rfl (lv_at hl 0 rfl) ?_
          refine db_get hx hb hts hown hK hS 0 0 (mm_k 0 rfl) rfl db_c7 24 (by decide) wd_465 rfl dX7_removeTask_37 ?_
          rw [show Xa 0 0 24 = nI sz from hIa.2.2.1]
          refine lv_icmp_ge (tgt := 113) hx hb dX7_removeTask_40 (by decide) (fun c40 => ?_) (fun c40 => ?_)
          · have hu : u = sz := by
              rcases Nat.lt_or_ge u (sz) with q9 | q9
              · exact absurd c40 (nI_ge q9 hsz)
              · omega
            refine lv_aload_n hx hb dX7_removeTask_113 rfl (lv_at hl 0 rfl) ?_
            refine lv_iload_n hx hb dX7_removeTask_114 rfl (lv_at hl 2 rfl) ?_
            refine db_put hx hb hts hown hK hS 0 0 (mm_k 0 rfl) rfl db_c7 24 (by decide) wd_465 rfl rfl rfl (Nat.le_of_ble_eq_true rfl) rfl dX7_removeTask_115 (fun H locs hS => ?_)
            obtain ⟨X2, eX2⟩ : ∃ z, z = db_up Xa 0 0 24 (nI v) := ⟨_, rfl⟩
            rw [← eX2] at hS
            refine lv_iconst (v := 1) hx hb dX7_removeTask_118 (by decide) ?_
            exact hret _ _ _ _ _ _ hS (by rw [mm_remove, if_neg c5]) (by rw [mm_remove, if_neg c5, db_nIc hj hn0, ← eXd, mm_rmA, hrem, hu, Nat.sub_self, eX2]; rfl) dX7_removeTask_119
          · have hu : u < sz := by
              rcases Nat.lt_or_ge u (sz) with q9 | q9
              · exact q9
              · exact absurd (nI_le q9 (by omega)) c40
            refine lv_aload_n hx hb dX7_removeTask_43 rfl (lv_at hl 0 rfl) ?_
            refine db_get hx hb hts hown hK hS 0 0 (mm_k 0 rfl) rfl db_c7 25 (by decide) wd_466 rfl dX7_removeTask_44 ?_
            refine lv_iload_n hx hb dX7_removeTask_47 rfl (lv_at hl 3 rfl) ?_
            refine db_ild hx hb hK hS 25 0 (mm_k 25 rfl) rfl u rfl (Nat.lt_of_lt_of_le (Nat.lt_of_lt_of_le hu hIa.2.2.2.1) hN.2.2.2.1) (by decide) dX7_removeTask_48 ?_
            refine lv_iload_n hx hb dX7_removeTask_49 rfl (lv_at hl 1 rfl) ?_
            refine lv_icmp_ne (tgt := 56) hx hb dX7_removeTask_50 (by decide) (fun c50 => ?_) (fun c50 => ?_)
            · refine lv_aload_n hx hb dX7_removeTask_56 rfl (lv_at hl 0 rfl) ?_
              refine db_get hx hb hts hown hK hS 0 0 (mm_k 0 rfl) rfl db_c7 25 (by decide) wd_466 rfl dX7_removeTask_57 ?_
              refine lv_iload_n hx hb dX7_removeTask_60 rfl (lv_at hl 2 rfl) ?_
              refine lv_aload_n hx hb dX7_removeTask_61 rfl (lv_at hl 0 rfl) ?_
              refine db_get hx hb hts hown hK hS 0 0 (mm_k 0 rfl) rfl db_c7 25 (by decide) wd_466 rfl dX7_removeTask_62 ?_
              refine lv_iload_n hx hb dX7_removeTask_65 rfl (lv_at hl 3 rfl) ?_
              refine db_ild hx hb hK hS 25 0 (mm_k 25 rfl) rfl u rfl (Nat.lt_of_lt_of_le (Nat.lt_of_lt_of_le hu hIa.2.2.2.1) hN.2.2.2.1) (by decide) dX7_removeTask_66 ?_
              refine db_ist hx hb hK hS 25 0 (mm_k 25 rfl) (fun _ => rfl) v rfl (Nat.lt_of_lt_of_le (Nat.lt_of_le_of_lt hv0 (Nat.lt_of_lt_of_le hu hIa.2.2.2.1)) hN.2.2.2.1) (by decide) dX7_removeTask_67 (fun H locs hS => ?_)
              obtain ⟨X3, eX3⟩ : ∃ z, z = db_up Xa 25 0 v (Xa 25 0 u) := ⟨_, rfl⟩
              rw [← eX3] at hS
              refine lv_aload_n hx hb dX7_removeTask_68 rfl (lv_at hl 0 rfl) ?_
              refine db_get hx hb hts hown hK hS 0 0 (mm_k 0 rfl) rfl db_c7 26 (by decide) wd_467 rfl dX7_removeTask_69 ?_
              refine lv_iload_n hx hb dX7_removeTask_72 rfl (lv_at hl 2 rfl) ?_
              refine lv_aload_n hx hb dX7_removeTask_73 rfl (lv_at hl 0 rfl) ?_
              refine db_get hx hb hts hown hK hS 0 0 (mm_k 0 rfl) rfl db_c7 26 (by decide) wd_467 rfl dX7_removeTask_74 ?_
              refine lv_iload_n hx hb dX7_removeTask_77 rfl (lv_at hl 3 rfl) ?_
              refine db_ild hx hb hK hS 26 0 (mm_k 26 rfl) rfl u rfl (Nat.lt_of_lt_of_le (Nat.lt_of_lt_of_le hu hIa.2.2.2.1) hN.2.2.2.1) (by decide) dX7_removeTask_78 ?_
              refine db_ist hx hb hK hS 26 0 (mm_k 26 rfl) (fun _ => rfl) v rfl (Nat.lt_of_lt_of_le (Nat.lt_of_le_of_lt hv0 (Nat.lt_of_lt_of_le hu hIa.2.2.2.1)) hN.2.2.2.1) (by decide) dX7_removeTask_79 (fun H locs hS => ?_)
              obtain ⟨X4, eX4⟩ : ∃ z, z = db_up X3 26 0 v (X3 26 0 u) := ⟨_, rfl⟩
              rw [← eX4] at hS
              refine lv_aload_n hx hb dX7_removeTask_80 rfl (lv_at hl 0 rfl) ?_
              refine db_get hx hb hts hown hK hS 0 0 (mm_k 0 rfl) rfl db_c7 27 (by decide) wd_468 rfl dX7_removeTask_81 ?_
              refine lv_iload_n hx hb dX7_removeTask_84 rfl (lv_at hl 2 rfl) ?_
              refine lv_aload_n hx hb dX7_removeTask_85 rfl (lv_at hl 0 rfl) ?_
              refine db_get hx hb hts hown hK hS 0 0 (mm_k 0 rfl) rfl db_c7 27 (by decide) wd_468 rfl dX7_removeTask_86 ?_
              refine lv_iload_n hx hb dX7_removeTask_89 rfl (lv_at hl 3 rfl) ?_
              refine db_ild hx hb hK hS 27 0 (mm_k 27 rfl) rfl u rfl (Nat.lt_of_lt_of_le (Nat.lt_of_lt_of_le hu hIa.2.2.2.1) hN.2.2.2.1) (by decide) dX7_removeTask_90 ?_
              refine db_ist hx hb hK hS 27 0 (mm_k 27 rfl) (fun _ => rfl) v rfl (Nat.lt_of_lt_of_le (Nat.lt_of_le_of_lt hv0 (Nat.lt_of_lt_of_le hu hIa.2.2.2.1)) hN.2.2.2.1) (by decide) dX7_removeTask_91 (fun H locs hS => ?_)
              obtain ⟨X5, eX5⟩ : ∃ z, z = db_up X4 27 0 v (X4 27 0 u) := ⟨_, rfl⟩
              rw [← eX5] at hS
              refine lv_aload_n hx hb dX7_removeTask_92 rfl (lv_at hl 0 rfl) ?_
              refine db_get hx hb hts hown hK hS 0 0 (mm_k 0 rfl) rfl db_c7 28 (by decide) wd_469 rfl dX7_removeTask_93 ?_
              refine lv_iload_n hx hb dX7_removeTask_96 rfl (lv_at hl 2 rfl) ?_
              refine lv_aload_n hx hb dX7_removeTask_97 rfl (lv_at hl 0 rfl) ?_
              refine db_get hx hb hts hown hK hS 0 0 (mm_k 0 rfl) rfl db_c7 28 (by decide) wd_469 rfl dX7_removeTask_98 ?_
              refine lv_iload_n hx hb dX7_removeTask_101 rfl (lv_at hl 3 rfl) ?_
              refine db_ild hx hb hK hS 28 0 (mm_k 28 rfl) rfl u rfl (Nat.lt_of_lt_of_le (Nat.lt_of_lt_of_le hu hIa.2.2.2.1) hN.2.2.2.1) (by decide) dX7_removeTask_102 ?_
              refine db_ist hx hb hK hS 28 0 (mm_k 28 rfl) (fun _ => rfl) v rfl (Nat.lt_of_lt_of_le (Nat.lt_of_le_of_lt hv0 (Nat.lt_of_lt_of_le hu hIa.2.2.2.1)) hN.2.2.2.1) (by decide) dX7_removeTask_103 (fun H locs hS => ?_)
              obtain ⟨X6, eX6⟩ : ∃ z, z = db_up X5 28 0 v (X5 28 0 u) := ⟨_, rfl⟩
              rw [← eX6] at hS
              refine lv_iinc (v := (nI (v + 1))) (lv' := [(2, .int (nI (v + 1))), (0, .ref (L 0 0)), (1, .int (nI j)), (3, .int (nI u))]) hx hb dX7_removeTask_104 hl (k := 2) rfl (nI_1 _) (by decide) rfl (fun ls hl => ?_)
              refine lv_iinc (v := (nI (u + 1))) (lv' := [(3, .int (nI (u + 1))), (2, .int (nI (v + 1))), (0, .ref (L 0 0)), (1, .int (nI j))]) hx hb dX7_removeTask_107 hl (k := 3) rfl (nI_1 _) (by decide) rfl (fun ls hl => ?_)
              refine lv_goto (tgt := 35) hx hb dX7_removeTask_110 (by decide) ?_
              have ecp : X6 = mm_cp Xa v u := by rw [eX6, eX5, eX4, eX3]; rfl
              exact ih35 (u + 1) (v + 1) X6 (by omega) hu (by omega) (by rw [ecp]; exact hIa.cp hu) (by rw [hrem, show sz - u = (sz - (u + 1)) + 1 by omega, mm_rmF, if_neg c50, ecp]) _ _ hS _ (lv_sub hl [2, 3, 1, 0] rfl)
            · refine lv_goto (tgt := 107) hx hb dX7_removeTask_53 (by decide) ?_
              refine lv_iinc (v := (nI (u + 1))) (lv' := [(3, .int (nI (u + 1))), (0, .ref (L 0 0)), (1, .int (nI j)), (2, .int (nI v))]) hx hb dX7_removeTask_107 hl (k := 3) rfl (nI_1 _) (by decide) rfl (fun ls hl => ?_)
              refine lv_goto (tgt := 35) hx hb dX7_removeTask_110 (by decide) ?_
              exact ih35 (u + 1) v Xa (by omega) hu (by omega) hIa (by rw [hrem, show sz - u = (sz - (u + 1)) + 1 by omega, mm_rmF, if_pos c50]) _ _ hS _ (lv_sub hl [1, 2, 3, 0] rfl)
      have hIe : mm_I N sz X1 := by rw [eX1]; exact hId.up rfl
      exact K35 _ 0 0 X1 (Nat.le_refl _) (Nat.zero_le _) (Nat.le_refl _) hIe (by rw [eX1, Nat.sub_zero]) _ _ hS _ (lv_sub hl [2, 3, 1, 0] rfl)
    refine lv_aload_n hx hb dX7_removeTask_10 rfl (lv_at hl 0 rfl) ?_
    refine db_get hx hb hts hown hK hS 0 0 (mm_k 0 rfl) rfl db_c7 17 (by decide) wd_458 rfl dX7_removeTask_11 ?_
    refine lv_iload_n hx hb dX7_removeTask_14 rfl (lv_at hl 1 rfl) ?_
    refine db_zld hx hb hK hS 17 0 (mm_k 17 rfl) rfl j rfl (Nat.lt_of_lt_of_le hj hN.2.1) (by decide) dX7_removeTask_15 ?_
    refine lv_if_eq (tgt := 24) hx hb dX7_removeTask_16 (by decide) (fun c16 => ?_) (fun c16 => ?_)
    · exact K24 X (by rw [mm_rm1, if_pos c16]) _ _ hS _ (lv_sub hl [0, 1] rfl)
    · refine lv_aload_n hx hb dX7_removeTask_19 rfl (lv_at hl 0 rfl) ?_
      refine lv_iload_n hx hb dX7_removeTask_20 rfl (lv_at hl 1 rfl) ?_
      refine db_cV (As := [.int (nI j)]) (rest := []) (st1 := []) hC hS 0 0 (mm_k 0 rfl) rfl db_c7 (c_X7_drops l Γ N L X hN sz j hI hj) (cw_X7_drops (Nat.le_of_ble_eq_true rfl) (Nat.le_of_ble_eq_true rfl)) wd_575 wd_577 ws_37 rfl hl.1 rfl (Nat.le_of_ble_eq_true rfl) dX7_removeTask_21 ⟨Nat.le_of_ble_eq_true rfl, Nat.le_of_ble_eq_true rfl⟩ rfl (fun H locs hS => ?_)
      obtain ⟨X7, eX7⟩ : ∃ z, z = mm_drop N X j := ⟨_, rfl⟩
      rw [← eX7] at hS
      exact K24 X7 (by rw [mm_rm1, if_neg c16, eX7]) _ _ hS _ (lv_sub hl [0, 1] rfl)
  · refine lv_iconst (v := 0) hx hb dX7_removeTask_8 (by decide) ?_
    exact hret _ _ _ _ _ _ hS (by rw [mm_remove, if_pos c5]) (by rw [mm_remove, if_pos c5]) dX7_removeTask_9

set_option maxHeartbeats 4000000 in
set_option maxRecDepth 100000 in
theorem c_X7_admissible (l : Launch) (Γ : db_G) (N : Nat → Nat) (L : Nat → Nat → Nat) (X : db_X) (hN : bb_N N) (la : Nat) (hla : X 0 0 4 = nI la) (hla2 : la < 2 ^ 31) (hper : ∀ j, j < N 0 → ¬ X 6 0 j = 0 → ¬ X 7 0 j = 0) : db_C l Γ yX7_admissible cX7_admissible 6 (some .boolean) (db_rm 0 0) [.ref (L 0 0)] L mm_ok (mm_cel Γ N L) X (some (.int (mm_ad N X la 0))) X := by
  have hn0 : N 0 < 2 ^ 31 := by have := hN.2.1; omega
  have hn1 : N 1 < 2 ^ 31 := by have := hN.2.2.1; omega
  have hn2 : N 2 < 2 ^ 31 := by have := hN.2.2.2.1; omega
  have hn3 : N 3 < 2 ^ 31 := by have := hN.2.2.2.2; omega
  refine db_introZ (by decide +kernel) (Nat.le_of_ble_eq_true rfl) (mm_ad01 _ _) ?_
  intro p e s m args below meth c A Q ls hC hS hl hret
  have hC : db_Cx p s m args meth c Γ RX7 cX7_admissible 6 (some .boolean) := hC
  obtain ⟨hx, hb, hml, hr, hlocks, hown, hts, hK⟩ := id hC
  have hl : lv_has ls 6 [(0, .ref (L 0 0))] := hl
  refine lv_iconst (v := 1) hx hb dX7_admissible_0 (by decide) ?_
  refine lv_istore_n (lv' := [(1, .int 1), (0, .ref (L 0 0))]) hx hb dX7_admissible_1 rfl hl (by decide) rfl (fun ls hl => ?_)
  refine lv_iconst (v := 0) hx hb dX7_admissible_2 (by decide) ?_
  refine lv_istore_n (lv' := [(2, .int 0), (1, .int 1), (0, .ref (L 0 0))]) hx hb dX7_admissible_3 rfl hl (by decide) rfl (fun ls hl => ?_)
  have K4 : ∀ (q : Nat) (t : Nat) (gd : Int32) (hq : la + 1 - t ≤ q) (ht0 : t ≤ la) (hgd : gd = 0 ∨ gd = 1) (hrem : mm_ad N X la 0 = if gd = 0 then 0 else mm_ad N X (la - t) t) (H : Heap) (locs : List Loc) (hS : db_S Γ A s.heap L mm_ok (mm_cel Γ N L) X H locs) (ls : Array Slot) (hl : lv_has ls 6 [(0, .ref (L 0 0)), (1, .int gd), (2, .int (nI t))]), W p l e (db_rm 0 0) s m args below meth c H locs 0 0 Q (F0 m 4 ls []) := by
    intro q4
    induction q4 with
    | zero =>
      intro t gd hq4 ht0 hgd hrem
      exact absurd hq4 (by omega)
    | succ q4 ih4 =>
      intro t gd hq4 ht0 hgd hrem H locs hS ls hl
      refine lv_iload_n hx hb dX7_admissible_4 rfl (lv_at hl 2 rfl) ?_
      refine lv_aload_n hx hb dX7_admissible_5 rfl (lv_at hl 0 rfl) ?_
      refine db_get hx hb hts hown hK hS 0 0 (mm_k 0 rfl) rfl db_c7 4 (by decide) wd_445 rfl dX7_admissible_6 ?_
      rw [show X 0 0 4 = nI la from hla]
      refine lv_icmp_ge (tgt := 108) hx hb dX7_admissible_9 (by decide) (fun c9 => ?_) (fun c9 => ?_)
      · have ht : t = la := by
          rcases Nat.lt_or_ge t (la) with q9 | q9
          · exact absurd c9 (nI_ge q9 hla2)
          · omega
        refine lv_iload_n hx hb dX7_admissible_108 rfl (lv_at hl 1 rfl) ?_
        exact hret _ _ _ _ _ _ hS (by rw [hrem, ht, Nat.sub_self]; rcases hgd with h | h <;> rw [h] <;> rfl) (rfl) dX7_admissible_109
      · have ht : t < la := by
          rcases Nat.lt_or_ge t (la) with q9 | q9
          · exact q9
          · exact absurd (nI_le q9 (by omega)) c9
        refine lv_iload_n hx hb dX7_admissible_12 rfl (lv_at hl 1 rfl) ?_
        refine lv_if_eq (tgt := 108) hx hb dX7_admissible_13 (by decide) (fun c13 => ?_) (fun c13 => ?_)
        · refine lv_iload_n hx hb dX7_admissible_108 rfl (lv_at hl 1 rfl) ?_
          exact hret _ _ _ _ _ _ hS (by rw [hrem, if_pos c13, c13]) (rfl) dX7_admissible_109
        · refine lv_lconst (v := 0) hx hb dX7_admissible_16 (by decide) ?_
          refine lv_lstore_n (lv' := [(3, .long 0), (0, .ref (L 0 0)), (1, .int gd), (2, .int (nI t))]) hx hb dX7_admissible_17 rfl hl (by decide) rfl (fun ls hl => ?_)
          refine lv_iconst (v := 0) hx hb dX7_admissible_18 (by decide) ?_
          refine lv_istore (lv' := [(5, .int 0), (3, .long 0), (0, .ref (L 0 0)), (1, .int gd), (2, .int (nI t))]) hx hb dX7_admissible_19 hl (by decide) rfl (fun ls hl => ?_)
          have K21 : ∀ (q : Nat) (j : Nat) (acc : Int64) (hq : N 0 + 1 - j ≤ q) (hj0 : j ≤ N 0) (hacc : acc = mm_sm X (nI t) j) (H : Heap) (locs : List Loc) (hS : db_S Γ A s.heap L mm_ok (mm_cel Γ N L) X H locs) (ls : Array Slot) (hl : lv_has ls 6 [(0, .ref (L 0 0)), (2, .int (nI t)), (3, .long acc), (5, .int (nI j))]), W p l e (db_rm 0 0) s m args below meth c H locs 0 0 Q (F0 m 21 ls []) := by
            intro q21
            induction q21 with
            | zero =>
              intro j acc hq21 hj0 hacc
              exact absurd hq21 (by omega)
            | succ q21 ih21 =>
              intro j acc hq21 hj0 hacc H locs hS ls hl
              refine lv_iload hx hb dX7_admissible_21 (lv_at hl 3 rfl) ?_
              refine lv_aload_n hx hb dX7_admissible_23 rfl (lv_at hl 0 rfl) ?_
              refine db_get hx hb hts hown hK hS 0 0 (mm_k 0 rfl) rfl db_c7 0 (by decide) wd_441 rfl dX7_admissible_24 ?_
              refine lv_icmp_ge (tgt := 89) hx hb dX7_admissible_27 (by decide) (fun c27 => ?_) (fun c27 => ?_)
              · have hj : j = N 0 := by
                  rcases Nat.lt_or_ge j (N 0) with q9 | q9
                  · exact absurd c27 (nI_ge q9 hn0)
                  · omega
                have K101 : ∀ (ng : Int32) (hg01 : ng = 0 ∨ ng = 1) (heq : mm_ad N X la 0 = if ng = 0 then 0 else mm_ad N X (la - (t + 1)) (t + 1)) (H : Heap) (locs : List Loc) (hS : db_S Γ A s.heap L mm_ok (mm_cel Γ N L) X H locs) (ls : Array Slot) (hl : lv_has ls 6 [(0, .ref (L 0 0)), (2, .int (nI t))]), W p l e (db_rm 0 0) s m args below meth c H locs 0 0 Q (F0 m 101 ls [.int ng]) := by
                  intro ng hg01 heq H locs hS ls hl
                  refine lv_istore_n (lv' := [(1, .int ng), (0, .ref (L 0 0)), (2, .int (nI t))]) hx hb dX7_admissible_101 rfl hl (by decide) rfl (fun ls hl => ?_)
                  refine lv_iinc (v := (nI (t + 1))) (lv' := [(2, .int (nI (t + 1))), (1, .int ng), (0, .ref (L 0 0))]) hx hb dX7_admissible_102 hl (k := 2) rfl (nI_1 _) (by decide) rfl (fun ls hl => ?_)
                  refine lv_goto (tgt := 4) hx hb dX7_admissible_105 (by decide) ?_
                  exact ih4 (t + 1) ng (by omega) ht hg01 heq _ _ hS _ (lv_sub hl [2, 1, 0] rfl)
                refine lv_lload_n hx hb dX7_admissible_89 rfl (lv_at hl 2 rfl) ?_
                refine lv_iload_n hx hb dX7_admissible_90 rfl (lv_at hl 1 rfl) ?_
                refine lv_i2l hx hb dX7_admissible_91 rfl ?_
                refine W.lcmp hx hb dX7_admissible_92 ?_
                refine lv_if_gt (tgt := 100) hx hb dX7_admissible_93 (by decide) (fun c93 => ?_) (fun c93 => ?_)
                · refine lv_iconst (v := 0) hx hb dX7_admissible_100 (by decide) ?_
                  exact K101 0 (Or.inl rfl) (by rw [hrem, if_neg c13, show la - t = (la - (t + 1)) + 1 by omega, mm_ad, ← hj, ← hacc, if_pos c93]; rfl) _ _ hS _ (lv_sub hl [0, 1] rfl)
                · refine lv_iconst (v := 1) hx hb dX7_admissible_96 (by decide) ?_
                  refine lv_goto (tgt := 101) hx hb dX7_admissible_97 (by decide) ?_
                  exact K101 1 (Or.inr rfl) (by rw [hrem, if_neg c13, show la - t = (la - (t + 1)) + 1 by omega, mm_ad, ← hj, ← hacc, if_neg c93, if_neg (by decide)]) _ _ hS _ (lv_sub hl [0, 1] rfl)
              · have hj : j < N 0 := by
                  rcases Nat.lt_or_ge j (N 0) with q9 | q9
                  · exact q9
                  · exact absurd (nI_le q9 (by omega)) c27
                refine lv_aload_n hx hb dX7_admissible_30 rfl (lv_at hl 0 rfl) ?_
                refine db_get hx hb hts hown hK hS 0 0 (mm_k 0 rfl) rfl db_c7 6 (by decide) wd_447 rfl dX7_admissible_31 ?_
                refine lv_iload hx hb dX7_admissible_34 (lv_at hl 3 rfl) ?_
                refine db_zld hx hb hK hS 6 0 (mm_k 6 rfl) rfl j rfl (Nat.lt_of_lt_of_le hj hN.2.1) (by decide) dX7_admissible_36 ?_
                refine lv_if_eq (tgt := 83) hx hb dX7_admissible_37 (by decide) (fun c37 => ?_) (fun c37 => ?_)
                · refine lv_iinc (v := (nI (j + 1))) (lv' := [(5, .int (nI (j + 1))), (0, .ref (L 0 0)), (2, .int (nI t)), (3, .long acc)]) hx hb dX7_admissible_83 hl (k := 3) rfl (nI_1 _) (by decide) rfl (fun ls hl => ?_)
                  refine lv_goto (tgt := 21) hx hb dX7_admissible_86 (by decide) ?_
                  exact ih21 (j + 1) acc (by omega) hj (by rw [mm_sm, ← hacc, if_pos c37]) _ _ hS _ (lv_sub hl [1, 2, 3, 0] rfl)
                · refine lv_aload_n hx hb dX7_admissible_40 rfl (lv_at hl 0 rfl) ?_
                  refine db_get hx hb hts hown hK hS 0 0 (mm_k 0 rfl) rfl db_c7 9 (by decide) wd_450 rfl dX7_admissible_41 ?_
                  refine lv_iload hx hb dX7_admissible_44 (lv_at hl 3 rfl) ?_
                  refine db_ild hx hb hK hS 9 0 (mm_k 9 rfl) rfl j rfl (Nat.lt_of_lt_of_le hj hN.2.1) (by decide) dX7_admissible_46 ?_
                  refine lv_iload_n hx hb dX7_admissible_47 rfl (lv_at hl 1 rfl) ?_
                  refine lv_icmp_gt (tgt := 83) hx hb dX7_admissible_48 (by decide) (fun c48 => ?_) (fun c48 => ?_)
                  · refine lv_iinc (v := (nI (j + 1))) (lv' := [(5, .int (nI (j + 1))), (0, .ref (L 0 0)), (2, .int (nI t)), (3, .long acc)]) hx hb dX7_admissible_83 hl (k := 3) rfl (nI_1 _) (by decide) rfl (fun ls hl => ?_)
                    refine lv_goto (tgt := 21) hx hb dX7_admissible_86 (by decide) ?_
                    exact ih21 (j + 1) acc (by omega) hj (by rw [mm_sm, ← hacc, if_neg c37, if_pos c48]) _ _ hS _ (lv_sub hl [1, 2, 3, 0] rfl)
                  · refine lv_lload_n hx hb dX7_admissible_51 rfl (lv_at hl 2 rfl) ?_
                    refine lv_aload_n hx hb dX7_admissible_52 rfl (lv_at hl 0 rfl) ?_
                    refine db_get hx hb hts hown hK hS 0 0 (mm_k 0 rfl) rfl db_c7 8 (by decide) wd_449 rfl dX7_admissible_53 ?_
                    refine lv_iload hx hb dX7_admissible_56 (lv_at hl 3 rfl) ?_
                    refine db_ild hx hb hK hS 8 0 (mm_k 8 rfl) rfl j rfl (Nat.lt_of_lt_of_le hj hN.2.1) (by decide) dX7_admissible_58 ?_
                    refine lv_i2l hx hb dX7_admissible_59 rfl ?_
                    refine lv_iconst (v := 1) hx hb dX7_admissible_60 (by decide) ?_
                    refine lv_iload_n hx hb dX7_admissible_61 rfl (lv_at hl 1 rfl) ?_
                    refine lv_aload_n hx hb dX7_admissible_62 rfl (lv_at hl 0 rfl) ?_
                    refine db_get hx hb hts hown hK hS 0 0 (mm_k 0 rfl) rfl db_c7 9 (by decide) wd_450 rfl dX7_admissible_63 ?_
                    refine lv_iload hx hb dX7_admissible_66 (lv_at hl 3 rfl) ?_
                    refine db_ild hx hb hK hS 9 0 (mm_k 9 rfl) rfl j rfl (Nat.lt_of_lt_of_le hj hN.2.1) (by decide) dX7_admissible_68 ?_
                    refine lv_isub hx hb dX7_admissible_69 ?_
                    refine lv_aload_n hx hb dX7_admissible_70 rfl (lv_at hl 0 rfl) ?_
                    refine db_get hx hb hts hown hK hS 0 0 (mm_k 0 rfl) rfl db_c7 7 (by decide) wd_448 rfl dX7_admissible_71 ?_
                    refine lv_iload hx hb dX7_admissible_74 (lv_at hl 3 rfl) ?_
                    refine db_ild hx hb hK hS 7 0 (mm_k 7 rfl) rfl j rfl (Nat.lt_of_lt_of_le hj hN.2.1) (by decide) dX7_admissible_76 ?_
                    refine lv_idiv hx hb dX7_admissible_77 (hper j hj c37) ?_
                    refine lv_iadd hx hb dX7_admissible_78 ?_
                    refine lv_i2l hx hb dX7_admissible_79 rfl ?_
                    refine lv_lmul hx hb dX7_admissible_80 ?_
                    refine lv_ladd hx hb dX7_admissible_81 ?_
                    refine lv_lstore_n (lv' := [(3, .long (acc + (((X 8 0 j).toInt64) * ((1 + (((nI t) - (X 9 0 j)) / (X 7 0 j))).toInt64)))), (0, .ref (L 0 0)), (2, .int (nI t)), (5, .int (nI j))]) hx hb dX7_admissible_82 rfl hl (by decide) rfl (fun ls hl => ?_)
                    refine lv_iinc (v := (nI (j + 1))) (lv' := [(5, .int (nI (j + 1))), (3, .long (acc + (((X 8 0 j).toInt64) * ((1 + (((nI t) - (X 9 0 j)) / (X 7 0 j))).toInt64)))), (0, .ref (L 0 0)), (2, .int (nI t))]) hx hb dX7_admissible_83 hl (k := 3) rfl (nI_1 _) (by decide) rfl (fun ls hl => ?_)
                    refine lv_goto (tgt := 21) hx hb dX7_admissible_86 (by decide) ?_
                    exact ih21 (j + 1) (acc + (((X 8 0 j).toInt64) * ((1 + (((nI t) - (X 9 0 j)) / (X 7 0 j))).toInt64))) (by omega) hj (by rw [mm_sm, ← hacc, if_neg c37, if_neg c48]) _ _ hS _ (lv_sub hl [2, 3, 1, 0] rfl)
          exact K21 _ 0 0 (Nat.le_refl _) (Nat.zero_le _) rfl _ _ hS _ (lv_sub hl [2, 4, 1, 0] rfl)
  exact K4 _ 0 1 (Nat.le_refl _) (Nat.zero_le _) (Or.inr rfl) (by rw [if_neg (by decide)]; rfl) _ _ hS _ (lv_sub hl [2, 1, 0] rfl)
