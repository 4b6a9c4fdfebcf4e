set_option maxHeartbeats 4000000 in
set_option maxRecDepth 100000 in
theorem n_X6_nearest (l : Launch) (Γ : db_G) (h : db_Mem) (sz : Nat) (v : Int32) (lo hi : Nat) (hlo : lo ≤ hi) (hhi : hi < 2 ^ 31) : db_N l Γ yX6_nearest cX6_nearest 3 (some .int) (db_rc 1 24 0 0) [.int v, .int (nI lo), .int (nI hi)] h sz (fun r h' z => r = some (.int (nI (bb_near v lo hi))) ∧ h' = h ∧ z = sz) := by
  refine db_introN (by decide +kernel) (Nat.le_of_ble_eq_true rfl) ?_
  intro p e s m args below meth c A Q ls hC hnm hz hW hl hret hQ
  have hC : db_Cx p s m args meth c Γ RX6 cX6_nearest 3 (some .int) := hC
  obtain ⟨hx, hb, hml, hr, hlocks, hown, hts, hK⟩ := id hC
  have hl : lv_has ls 3 [(0, .int v), (1, .int (nI lo)), (2, .int (nI hi))] := hl
  refine lv_iload_n hx hb dX6_nearest_0 rfl (lv_at hl 1 rfl) ?_
  refine lv_iload_n hx hb dX6_nearest_1 rfl (lv_at hl 0 rfl) ?_
  refine lv_iload_n hx hb dX6_nearest_2 rfl (lv_at hl 2 rfl) ?_
  refine db_mmin hC hl.1 wd_22 (by decide) (Nat.le_of_ble_eq_true rfl) dX6_nearest_3 ?_
  refine db_mmax hC hl.1 wd_25 (by decide) (Nat.le_of_ble_eq_true rfl) dX6_nearest_6 ?_
  refine W.mono hQ ?_
  refine W.eq (g2 := F0 m 9 ls [.int (nI (bb_near v lo hi))]) (by rw [bb_near_eq hlo hhi]) ?_
  exact W.iret hx hb hr (fun t9 ht9 _ => hret _ _ _ (some (.int (nI (bb_near v lo hi)))) hW ⟨rfl, rfl, hz⟩ t9 ht9) hW.2.2.1.2.2 dX6_nearest_9 hlocks

set_option maxHeartbeats 4000000 in
set_option maxRecDepth 100000 in
theorem n_X7_within (l : Launch) (Γ : db_G) (h : db_Mem) (sz : Nat) (v : Int32) (lo hi : Nat) (hlo : lo ≤ hi) (hhi : hi < 2 ^ 31) : db_N l Γ yX7_within cX7_within 3 (some .int) (db_rc 0 0 0 0) [.int v, .int (nI lo), .int (nI hi)] h sz (fun r h' z => r = some (.int (nI (bb_near v lo hi))) ∧ h' = h ∧ z = sz) := by
  refine db_introN (by decide +kernel) (Nat.le_of_ble_eq_true rfl) ?_
  intro p e s m args below meth c A Q ls hC hnm hz hW hl hret hQ
  have hC : db_Cx p s m args meth c Γ RX7 cX7_within 3 (some .int) := hC
  obtain ⟨hx, hb, hml, hr, hlocks, hown, hts, hK⟩ := id hC
  have hl : lv_has ls 3 [(0, .int v), (1, .int (nI lo)), (2, .int (nI hi))] := hl
  refine lv_iload_n hx hb dX7_within_0 rfl (lv_at hl 0 rfl) ?_
  refine lv_iload_n hx hb dX7_within_1 rfl (lv_at hl 1 rfl) ?_
  refine lv_icmp_ge (tgt := 9) hx hb dX7_within_2 (by decide) (fun c2 => ?_) (fun c2 => ?_)
  · refine lv_iload_n hx hb dX7_within_9 rfl (lv_at hl 0 rfl) ?_
    refine lv_iload_n hx hb dX7_within_10 rfl (lv_at hl 2 rfl) ?_
    refine lv_icmp_le (tgt := 18) hx hb dX7_within_11 (by decide) (fun c11 => ?_) (fun c11 => ?_)
    · refine lv_iload_n hx hb dX7_within_18 rfl (lv_at hl 0 rfl) ?_
      refine W.mono hQ ?_
      refine W.eq (g2 := F0 m 19 ls [.int (nI (bb_near v lo hi))]) (by rw [← bb_within_eq hlo hhi, if_pos c2, if_pos c11]) ?_
      exact W.iret hx hb hr (fun t9 ht9 _ => hret _ _ _ (some (.int (nI (bb_near v lo hi)))) hW ⟨rfl, rfl, hz⟩ t9 ht9) hW.2.2.1.2.2 dX7_within_19 hlocks
    · refine lv_iload_n hx hb dX7_within_14 rfl (lv_at hl 2 rfl) ?_
      refine lv_goto (tgt := 19) hx hb dX7_within_15 (by decide) ?_
      refine W.mono hQ ?_
      refine W.eq (g2 := F0 m 19 ls [.int (nI (bb_near v lo hi))]) (by rw [← bb_within_eq hlo hhi, if_pos c2, if_neg c11]) ?_
      exact W.iret hx hb hr (fun t9 ht9 _ => hret _ _ _ (some (.int (nI (bb_near v lo hi)))) hW ⟨rfl, rfl, hz⟩ t9 ht9) hW.2.2.1.2.2 dX7_within_19 hlocks
  · refine lv_iload_n hx hb dX7_within_5 rfl (lv_at hl 1 rfl) ?_
    refine lv_goto (tgt := 19) hx hb dX7_within_6 (by decide) ?_
    refine W.mono hQ ?_
    refine W.eq (g2 := F0 m 19 ls [.int (nI (bb_near v lo hi))]) (by rw [← bb_within_eq hlo hhi, if_neg c2]) ?_
    exact W.iret hx hb hr (fun t9 ht9 _ => hret _ _ _ (some (.int (nI (bb_near v lo hi)))) hW ⟨rfl, rfl, hz⟩ t9 ht9) hW.2.2.1.2.2 dX7_within_19 hlocks

theorem cw_J7_fill_53178 {R rm : Room} (h1 : rm.frames + 1 ≤ R.frames) (h2 : 8 + (4 + 11) + rm.locals ≤ R.locals) : db_cw R yJ7_fill_53178 cJ7_fill_53178 4 none rm 2 := ⟨wd_121, wd_5, by decide +kernel, h1, h2⟩
set_option maxHeartbeats 4000000 in
set_option maxRecDepth 100000 in
theorem n_J7_fill_53178 (l : Launch) (Γ : db_G) (h : db_Mem) (a sz n : Nat) (v : Int32) (f : Nat → Int32) (hn : n < 2 ^ 31) (ha : h a = some (.inl (Γ.2 0, n, .inl f))) : db_N l Γ yJ7_fill_53178 cJ7_fill_53178 4 none (db_rc 0 0 0 0) [.ref a, .int v] h sz (fun r h' z => r = none ∧ (∃ g : Nat → Int32, h' a = some (.inl (Γ.2 0, n, .inl g)) ∧ ∀ j, j < n → g j = v) ∧ (∀ x, x ≠ a → h' x = h x) ∧ z = sz) := by
  refine db_introN (by decide +kernel) (Nat.le_of_ble_eq_true rfl) ?_
  intro p e s m args below meth c A Q ls hC hnm hz hW hl hret hQ
  have hC : db_Cx p s m args meth c Γ RJ7 cJ7_fill_53178 4 none := hC
  obtain ⟨hx, hb, hml, hr, hlocks, hown, hts, hK⟩ := id hC
  have hl : lv_has ls 4 [(0, .ref a), (1, .int v)] := hl
  refine lv_iconst (v := 0) hx hb dJ7_fill_53178_0 (by decide) ?_
  refine lv_istore_n (lv' := [(2, .int 0), (0, .ref a), (1, .int v)]) hx hb dJ7_fill_53178_1 rfl hl (by decide) rfl (fun ls hl => ?_)
  refine lv_aload_n hx hb dJ7_fill_53178_2 rfl (lv_at hl 1 rfl) ?_
  refine db_alenR hx hb hK hW.1 0 rfl ha dJ7_fill_53178_3 ?_
  refine lv_istore_n (lv' := [(3, .int (nI n)), (2, .int 0), (0, .ref a), (1, .int v)]) hx hb dJ7_fill_53178_4 rfl hl (by decide) rfl (fun ls hl => ?_)
  have K5 : ∀ (q : Nat) (j : Nat) (hq : n + 1 - j ≤ q) (hj0 : j ≤ n) (h1 : db_Mem) (g : Nat → Int32) (hg : h1 a = some (.inl (Γ.2 0, n, .inl g))) (hgv : ∀ i, i < j → g i = v) (ho : ∀ x, x ≠ a → h1 x = h x) (H : Heap) (locs : List Loc) (hz : H.size = sz) (hW : db_W Γ A s.heap h1 H locs) (ls : Array Slot) (hl : lv_has ls 4 [(0, .ref a), (1, .int v), (2, .int (nI j)), (3, .int (nI n))]), W p l e (db_rc 0 0 0 0) s m args below meth c H locs 0 0 Q (F0 m 5 ls []) := by
    intro q
    induction q with
    | zero =>
      intro j hq hj0
      exact absurd hq (by omega)
    | succ q ih =>
      intro j hq hj0 h1 g hg hgv ho H locs hz hW ls hl
      refine lv_iload_n hx hb dJ7_fill_53178_5 rfl (lv_at hl 2 rfl) ?_
      refine lv_iload_n hx hb dJ7_fill_53178_6 rfl (lv_at hl 3 rfl) ?_
      refine lv_icmp_ge (tgt := 20) hx hb dJ7_fill_53178_7 (by decide) (fun c7 => ?_) (fun c7 => ?_)
      · have hj : j = n := by
          rcases Nat.lt_or_ge j n with q9 | q9
          · exact absurd c7 (nI_ge q9 hn)
          · omega
        refine W.mono hQ ?_
        exact W.vret hx hb hr (fun t9 ht9 _ => hret _ _ _ none hW ⟨rfl, ⟨g, hg, fun i hi => hgv i (by omega)⟩, ho, hz⟩ t9 ht9) hW.2.2.1.2.2 dJ7_fill_53178_20 hlocks
      · have hj : j < n := by
          rcases Nat.lt_or_ge j n with q9 | q9
          · exact q9
          · exact absurd (nI_le q9 (by omega)) c7
        refine lv_aload_n hx hb dJ7_fill_53178_10 rfl (lv_at hl 0 rfl) ?_
        refine lv_iload_n hx hb dJ7_fill_53178_11 rfl (lv_at hl 2 rfl) ?_
        refine lv_iload_n hx hb dJ7_fill_53178_12 rfl (lv_at hl 1 rfl) ?_
        refine db_istS hx hb hK hW hg rfl hj hn dJ7_fill_53178_13 (fun H locs hz1 hW => ?_)
        refine lv_iinc (v := nI (j + 1)) (lv' := [(2, .int (nI (j + 1))), (0, .ref a), (1, .int v), (3, .int (nI n))]) hx hb dJ7_fill_53178_14 hl (k := 2) rfl (nI_1 _) (by decide) rfl (fun ls hl => ?_)
        refine lv_goto (tgt := 5) hx hb dJ7_fill_53178_17 (by decide) ?_
        refine ih (j + 1) (by omega) hj _ _ db_ss ?_ (fun x hx9 => (db_sn hx9).trans (ho x hx9)) H locs (hz1.trans hz) hW ls (lv_sub hl [1, 2, 0, 3] rfl)
        intro i hi
        by_cases q9 : i = j
        · subst q9; simp [upd]
        · simp [upd, q9]; exact hgv i (by omega)
  exact K5 _ 0 (Nat.le_refl _) (Nat.zero_le _) h f ha (fun i hi => absurd hi (by omega)) (fun _ _ => rfl) _ _ hz hW _ (lv_sub hl [2, 3, 1, 0] rfl)
