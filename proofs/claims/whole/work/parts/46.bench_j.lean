set_option maxHeartbeats 4000000 in
set_option maxRecDepth 100000 in
theorem n_X6_addSection (l : Launch) (Γ : db_G) (N : Nat → Nat) (L : Nat → Nat → Nat) (cnt : Nat) (X : db_X) (hN : bb_N N) (t b k g : Int32) (sz : Nat) (hI : bb_I N cnt sz X) (hcn : cnt < 2 ^ 31) (hcn1 : cnt + 1 < 2 ^ 31) (hRw : bb_Rw cnt X) (h : db_Mem) (hR0 : db_R L (bb_ok (N 0) cnt) (bb_cel Γ N L) X h) (z0 : Nat) : db_N l Γ yX6_addSection cX6_addSection 5 (some .boolean) (db_rc 4 88 1 5) [.ref (L 0 0), .int t, .int b, .int k, .int g] h z0 (fun v h' _ => ∃ L' : Nat → Nat → Nat, v = some (.int (bb_addSec N X sz cnt t b k g).1) ∧ db_R L' (bb_ok (N 0) (bb_addSec N X sz cnt t b k g).2.2) (bb_cel Γ N L') (bb_addSec N X sz cnt t b k g).2.1 h' ∧ ∀ k i, k ≤ 11 → L' k i = L k i) := by
  have hn0 : N 0 < 2 ^ 31 := by have := hN.2.1; omega
  have hn1 : N 1 < 2 ^ 31 := by have := hN.2.2.1; omega
  refine db_introN (by decide +kernel) (Nat.le_of_ble_eq_true rfl) ?_
  intro p e s m args below meth c A Q ls hC hnm hz hW hl hret hQ
  have hC : db_Cx p s m args meth c Γ RX6 cX6_addSection 5 (some .boolean) := hC
  obtain ⟨hx, hb, hml, hr, hlocks, hown, hts, hK⟩ := id hC
  have hS : db_S Γ A s.heap L (bb_ok (N 0) cnt) (bb_cel Γ N L) X s.heap [] := ⟨h, hR0, hW⟩
  have hl : lv_has ls 5 [(0, .ref (L 0 0)), (1, .int t), (2, .int b), (3, .int k), (4, .int g)] := hl
  have K31 : ∀ (h31 : bb_addSec N X sz cnt t b k g = (0, X, cnt)) (H : Heap) (locs : List Loc) (hS : db_S Γ A s.heap L (bb_ok (N 0) cnt) (bb_cel Γ N L) X H locs) (ls : Array Slot) (hl : lv_has ls 5 []), W p l e (db_rc 4 88 1 5) s m args below meth c H locs 0 0 Q (F0 m 31 ls []) := by
    intro  h31 H locs hS ls hl
    refine lv_iconst (v := 0) hx hb dX6_addSection_31 (by decide) ?_
    obtain ⟨h3, hR3, hW3⟩ := hS
    refine W.widen (k := 1) (n := 5) (Nat.zero_le _) (Nat.zero_le _) (W.mono hQ ?_)
    exact W.zret hx hb hr rfl (fun t9 ht9 _ => hret _ _ _ (some (.int 0)) hW3 ⟨L, by rw [h31], by rw [h31]; exact hR3, fun _ _ _ => rfl⟩ t9 ht9) hW3.2.2.1.2.2 dX6_addSection_32 hlocks
  refine lv_aload_n hx hb dX6_addSection_0 rfl (lv_at hl 0 rfl) ?_
  refine lv_iload_n hx hb dX6_addSection_1 rfl (lv_at hl 1 rfl) ?_
  refine db_cV (As := [.int t]) (rest := []) (st1 := [.int (bb_isLive N X t)]) hC hS 0 0 (bb_k 0 rfl) rfl db_c6 (c_X6_isLive l Γ N L cnt X hN t) (cw_X6_isLive (Nat.le_of_ble_eq_true rfl) (Nat.le_of_ble_eq_true rfl)) wd_209 wd_211 ws_1 rfl hl.1 rfl (Nat.le_of_ble_eq_true rfl) dX6_addSection_2 ⟨Nat.le_of_ble_eq_true rfl, Nat.le_of_ble_eq_true rfl⟩ rfl (fun H locs hS => ?_)
  refine lv_if_eq (tgt := 31) hx hb dX6_addSection_5 (by decide) (fun c5 => ?_) (fun c5 => ?_)
  · exact K31  (by rw [bb_addSec, if_pos (show bb_asg N X t b k g = 0 by rw [bb_asg, if_pos c5])]) _ _ hS _ (lv_sub hl [] rfl)
  · refine lv_aload_n hx hb dX6_addSection_8 rfl (lv_at hl 0 rfl) ?_
    refine lv_iload_n hx hb dX6_addSection_9 rfl (lv_at hl 3 rfl) ?_
    refine db_cV (As := [.int k]) (rest := []) (st1 := [.int (bb_isLock N k)]) hC hS 0 0 (bb_k 0 rfl) rfl db_c6 (c_X6_isLock l Γ N L cnt X hN k) (cw_X6_isLock (Nat.le_of_ble_eq_true rfl) (Nat.le_of_ble_eq_true rfl)) wd_213 wd_215 ws_2 rfl hl.1 rfl (Nat.le_of_ble_eq_true rfl) dX6_addSection_10 ⟨Nat.le_of_ble_eq_true rfl, Nat.le_of_ble_eq_true rfl⟩ rfl (fun H locs hS => ?_)
    refine lv_if_eq (tgt := 31) hx hb dX6_addSection_13 (by decide) (fun c13 => ?_) (fun c13 => ?_)
    · exact K31  (by rw [bb_addSec, if_pos (show bb_asg N X t b k g = 0 by rw [bb_asg, if_neg c5, if_pos c13])]) _ _ hS _ (lv_sub hl [] rfl)
    · obtain ⟨j, hj, rfl⟩ := bb_isLive_ix hn0 c5
      refine lv_aload_n hx hb dX6_addSection_16 rfl (lv_at hl 0 rfl) ?_
      refine db_get hx hb hts hown hK hS 0 0 (bb_k 0 rfl) rfl db_c6 0 (by decide) wd_172 rfl dX6_addSection_17 ?_
      refine lv_iload_n hx hb dX6_addSection_20 rfl (lv_at hl 1 rfl) ?_
      refine db_ald hx hb hK hS 11 0 (bb_k 11 rfl) 2 rfl rfl j rfl hj hn0 rfl dX6_addSection_21 ?_
      refine db_getN hx hb hts hown hK hS 1 j (bb_kT hj) rfl db_c5 0 (by decide) wn_71 rfl dX6_addSection_22 ?_
      refine db_getN hx hb hts hown hK hS 2 j (bb_kJ hj) rfl db_c0 0 (by decide) wn_42 rfl dX6_addSection_25 ?_
      refine lv_if_eq (tgt := 33) hx hb dX6_addSection_28 (by decide) (fun c28 => ?_) (fun c28 => ?_)
      · have K59 : ∀ (h59 : bb_addSec N X sz cnt (nI j) b k g = (0, X, cnt)) (H : Heap) (locs : List Loc) (hS : db_S Γ A s.heap L (bb_ok (N 0) cnt) (bb_cel Γ N L) X H locs) (ls : Array Slot) (hl : lv_has ls 5 []), W p l e (db_rc 4 88 1 5) s m args below meth c H locs 0 0 Q (F0 m 59 ls []) := by
          intro  h59 H locs hS ls hl
          refine lv_iconst (v := 0) hx hb dX6_addSection_59 (by decide) ?_
          obtain ⟨h3, hR3, hW3⟩ := hS
          refine W.widen (k := 1) (n := 5) (Nat.zero_le _) (Nat.zero_le _) (W.mono hQ ?_)
          exact W.zret hx hb hr rfl (fun t9 ht9 _ => hret _ _ _ (some (.int 0)) hW3 ⟨L, by rw [h59], by rw [h59]; exact hR3, fun _ _ _ => rfl⟩ t9 ht9) hW3.2.2.1.2.2 dX6_addSection_60 hlocks
        refine lv_iload_n hx hb dX6_addSection_33 rfl (lv_at hl 2 rfl) ?_
        refine lv_if_lt (tgt := 59) hx hb dX6_addSection_34 (by decide) (fun c34 => ?_) (fun c34 => ?_)
        · exact K59  (by rw [bb_addSec, if_pos (show bb_asg N X (nI j) b k g = 0 by rw [bb_asg, if_neg c5, if_neg c13, db_nIc hj hn0, if_neg (fun q => q c28), if_pos c34])]) _ _ hS _ (lv_sub hl [] rfl)
        · refine lv_iload hx hb dX6_addSection_37 (lv_at hl 4 rfl) ?_
          refine lv_iconst (v := 1) hx hb dX6_addSection_39 (by decide) ?_
          refine lv_icmp_lt (tgt := 59) hx hb dX6_addSection_40 (by decide) (fun c40 => ?_) (fun c40 => ?_)
          · exact K59  (by rw [bb_addSec, if_pos (show bb_asg N X (nI j) b k g = 0 by rw [bb_asg, if_neg c5, if_neg c13, db_nIc hj hn0, if_neg (fun q => q c28), if_neg c34, if_pos c40])]) _ _ hS _ (lv_sub hl [] rfl)
          · refine lv_iload hx hb dX6_addSection_43 (lv_at hl 4 rfl) ?_
            refine lv_aload_n hx hb dX6_addSection_45 rfl (lv_at hl 0 rfl) ?_
            refine db_get hx hb hts hown hK hS 0 0 (bb_k 0 rfl) rfl db_c6 0 (by decide) wd_172 rfl dX6_addSection_46 ?_
            refine lv_iload_n hx hb dX6_addSection_49 rfl (lv_at hl 1 rfl) ?_
            refine db_ald hx hb hK hS 11 0 (bb_k 11 rfl) 2 rfl rfl j rfl hj hn0 rfl dX6_addSection_50 ?_
            refine db_getN hx hb hts hown hK hS 1 j (bb_kT hj) rfl db_c5 3 (by decide) wn_77 rfl dX6_addSection_51 ?_
            refine lv_iload_n hx hb dX6_addSection_54 rfl (lv_at hl 2 rfl) ?_
            refine lv_isub hx hb dX6_addSection_55 ?_
            refine lv_icmp_le (tgt := 61) hx hb dX6_addSection_56 (by decide) (fun c56 => ?_) (fun c56 => ?_)
            · refine lv_aload_n hx hb dX6_addSection_61 rfl (lv_at hl 0 rfl) ?_
              refine db_get hx hb hts hown hK hS 0 0 (bb_k 0 rfl) rfl db_c6 2 (by decide) wd_174 rfl dX6_addSection_62 ?_
              have hg : ¬ bb_asg N X (nI j) b k g = 0 := by rw [bb_asg, if_neg c5, if_neg c13, db_nIc hj hn0, if_neg (fun q => q c28), if_neg c34, if_neg c40, if_pos c56]; decide
              obtain ⟨hm, hR, hW⟩ := hS
              refine db_newR hx hb hts hown hK hW db_c3 wd_217 wd_218 wd_10 (fs := [.int 0, .int 0, .int 0, .int 0, .int 0]) (by decide +kernel) (by show 0 + 1 ≤ 1; omega) (by show 0 + 5 ≤ 5; omega) dX6_addSection_65 rfl (fun H1 hW1 hno hz1 => ?_)
              generalize H.size = q at *
              refine lv_dup hx hb dX6_addSection_68 rfl ?_
              refine lv_iload_n hx hb dX6_addSection_69 rfl (lv_at hl 1 rfl) ?_
              refine lv_iload_n hx hb dX6_addSection_70 rfl (lv_at hl 2 rfl) ?_
              refine lv_iload_n hx hb dX6_addSection_71 rfl (lv_at hl 3 rfl) ?_
              refine lv_iload hx hb dX6_addSection_72 (lv_at hl 4 rfl) ?_
              refine db_cIN (As := [.int (nI j), .int b, .int k, .int g]) (rest := [.ref q, .ref (L 4 0)]) hC hW1 hz1 (n_X3_init l Γ q _ _ (nI j) b k g db_ss) (cw_X3_init (Nat.le_of_ble_eq_true rfl) (Nat.le_of_ble_eq_true rfl)) wn_219 wd_220 rfl rfl hl.1 rfl (Nat.le_of_ble_eq_true rfl) dX6_addSection_74 ⟨Nat.le_of_ble_eq_true rfl, Nat.le_of_ble_eq_true rfl⟩ (fun v9 h9 H2 locs2 hP9 hW2 => ?_)
              obtain ⟨rfl, e9, hz2⟩ := hP9
              have hS : db_S Γ A s.heap (bb_L L cnt q) (bb_ok (N 0) (cnt + 1)) (bb_cel Γ N (bb_L L cnt q)) (bb_newS X cnt (nI j) b k g) H2 locs2 := by
                refine ⟨h9, bb_newR hcn hRw hR hno ?_ ?_, hW2⟩
                · rw [e9]; exact db_ss
                · intro x hx9; rw [e9]; simp [db_set, hx9]
              refine W.eq (g2 := F0 m 77 ls [.ref (bb_L L cnt q 12 cnt), .ref (bb_L L cnt q 4 0)]) (by rw [bb_L_n, bb_L_o (by decide)]; rfl) ?_
              refine db_cVN (As := [.ref (bb_L L cnt q 12 cnt)]) (rest := []) (st1 := [.int (bb_ins N (bb_newS X cnt (nI j) b k g) sz cnt).1]) hC hS 4 0 (bb_k 4 rfl) rfl db_c4 (c_X4_insert l Γ N (bb_L L cnt q) (cnt + 1) (bb_newS X cnt (nI j) b k g) hN sz cnt (hI.newS hcn) hcn1 (Nat.lt_succ_self _)) (cw_X4_insert (Nat.le_of_ble_eq_true rfl) (Nat.le_of_ble_eq_true rfl)) wn_244 wd_246 ws_3 rfl hl.1 rfl (Nat.le_of_ble_eq_true rfl) dX6_addSection_77 ⟨Nat.le_of_ble_eq_true rfl, Nat.le_of_ble_eq_true rfl⟩ rfl (fun H locs hS => ?_)
              obtain ⟨h3, hR3, hW3⟩ := hS
              refine W.widen (k := 1) (n := 5) (Nat.le_of_ble_eq_true rfl) (Nat.le_of_ble_eq_true rfl) (W.mono hQ ?_)
              exact W.zret hx hb hr (db_nz bb_ins01) (fun t9 ht9 _ => hret _ _ _ (some (.int (bb_ins N (bb_newS X cnt (nI j) b k g) sz cnt).1)) hW3 ⟨bb_L L cnt q, by rw [bb_addSec, if_neg hg], by rw [bb_addSec, if_neg hg]; exact hR3, fun k9 i9 h9 => bb_L_o (by omega)⟩ t9 ht9) hW3.2.2.1.2.2 dX6_addSection_80 hlocks
            · exact K59  (by rw [bb_addSec, if_pos (show bb_asg N X (nI j) b k g = 0 by rw [bb_asg, if_neg c5, if_neg c13, db_nIc hj hn0, if_neg (fun q => q c28), if_neg c34, if_neg c40, if_neg c56])]) _ _ hS _ (lv_sub hl [] rfl)
      · exact K31  (by rw [bb_addSec, if_pos (show bb_asg N X (nI j) b k g = 0 by rw [bb_asg, if_neg c5, if_neg c13, db_nIc hj hn0, if_pos c28])]) _ _ hS _ (lv_sub hl [] rfl)
