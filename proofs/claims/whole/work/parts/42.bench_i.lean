theorem bb_ins01 {N : Nat → Nat} {X : db_X} {sz b : Nat} : (bb_ins N X sz b).1 = 0 ∨ (bb_ins N X sz b).1 = 1 := by
  unfold bb_ins
  split
  · exact Or.inl rfl
  · split
    · exact Or.inr rfl
    · exact Or.inl rfl

set_option maxHeartbeats 4000000 in
set_option maxRecDepth 100000 in
theorem c_X4_insert (l : Launch) (Γ : db_G) (N : Nat → Nat) (L : Nat → Nat → Nat) (cnt : Nat) (X : db_X) (hN : bb_N N) (sz b : Nat) (hI : bb_I N cnt sz X) (hcn : cnt < 2 ^ 31) (hb1 : b < cnt) : db_C l Γ yX4_insert cX4_insert 3 (some .boolean) (db_rm 3 66) [.ref (L 4 0), .ref (L 12 b)] L (bb_ok (N 0) cnt) (bb_cel Γ N L) X (some (.int ((bb_ins N X sz b).1))) ((bb_ins N X sz b).2) := by
  have hn0 : N 0 < 2 ^ 31 := by have := hN.2.1; omega
  have hn1 : N 1 < 2 ^ 31 := by have := hN.2.2.1; omega
  have hn2 : N 2 < 2 ^ 31 := by have := hN.2.2.2.1; omega
  have hn3 : N 3 < 2 ^ 31 := by have := hN.2.2.2.2; omega
  refine db_introZ (by decide +kernel) (Nat.le_of_ble_eq_true rfl) bb_ins01 ?_
  intro p e s m args below meth c A Q ls hC hS hl hret
  have hC : db_Cx p s m args meth c Γ RX4 cX4_insert 3 (some .boolean) := hC
  obtain ⟨hx, hb, hml, hr, hlocks, hown, hts, hK⟩ := id hC
  have hl : lv_has ls 3 [(0, .ref (L 4 0)), (1, .ref (L 12 b))] := hl
  have hsz : sz < 2 ^ 31 := by have := hI.2.2.2.1; omega
  have K20 : ∀ (h20 : bb_ins N X sz b = (0, X)) (H : Heap) (locs : List Loc) (hS : db_S Γ A s.heap L (bb_ok (N 0) cnt) (bb_cel Γ N L) X H locs) (ls : Array Slot) (hl : lv_has ls 3 []), W p l e (db_rm 3 66) s m args below meth c H locs 0 0 Q (F0 m 20 ls []) := by
    intro  h20 H locs hS ls hl
    refine lv_iconst (v := 0) hx hb dX4_insert_20 (by decide) ?_
    exact hret _ _ _ _ _ _ hS (by rw [h20]) (by rw [h20]) dX4_insert_21
  refine lv_aload_n hx hb dX4_insert_0 rfl (lv_at hl 0 rfl) ?_
  refine db_get hx hb hts hown hK hS 4 0 (bb_k 4 rfl) rfl db_c4 1 (by decide) wd_132 rfl dX4_insert_1 ?_
  rw [show X 4 0 1 = nI sz from hI.2.2.1]
  refine lv_aload_n hx hb dX4_insert_4 rfl (lv_at hl 0 rfl) ?_
  refine db_get hx hb hts hown hK hS 4 0 (bb_k 4 rfl) rfl db_c4 0 (by decide) wd_130 rfl dX4_insert_5 ?_
  refine db_alen hx hb hK hS 5 0 (bb_k 5 rfl) 3 rfl rfl dX4_insert_8 ?_
  refine lv_icmp_ge (tgt := 20) hx hb dX4_insert_9 (by decide) (fun c9 => ?_) (fun c9 => ?_)
  · exact K20  (by rw [bb_ins, if_pos ((nI_leI hn2 hsz).mp c9)]) _ _ hS _ (lv_sub hl [] rfl)
  · have hszN : sz < N 2 := Nat.not_le.mp (fun q => c9 ((nI_leI hn2 hsz).mpr q))
    refine lv_aload_n hx hb dX4_insert_12 rfl (lv_at hl 0 rfl) ?_
    refine lv_aload_n hx hb dX4_insert_13 rfl (lv_at hl 1 rfl) ?_
    refine db_cV (As := [.ref (L 12 b)]) (rest := []) (st1 := [.int (bb_clF X b sz 0)]) hC hS 4 0 (bb_k 4 rfl) rfl db_c4 (c_X4_clashes l Γ N L cnt X hN sz b hI hcn hb1) (cw_X4_clashes (Nat.le_of_ble_eq_true rfl) (Nat.le_of_ble_eq_true rfl)) wd_248 wd_250 ws_4 rfl hl.1 rfl (Nat.le_of_ble_eq_true rfl) dX4_insert_14 ⟨Nat.le_of_ble_eq_true rfl, Nat.le_of_ble_eq_true rfl⟩ rfl (fun H locs hS => ?_)
    refine lv_if_eq (tgt := 22) hx hb dX4_insert_17 (by decide) (fun c17 => ?_) (fun c17 => ?_)
    · have K66 : ∀ (v : Nat) (Xa : db_X) (hv : v ≤ sz) (hIa : bb_I N cnt sz Xa) (hrem : bb_insF b sz X = (v, Xa)) (H : Heap) (locs : List Loc) (hS : db_S Γ A s.heap L (bb_ok (N 0) cnt) (bb_cel Γ N L) Xa H locs) (ls : Array Slot) (hl : lv_has ls 3 [(0, .ref (L 4 0)), (1, .ref (L 12 b)), (2, .int (nI v))]), W p l e (db_rm 3 66) s m args below meth c H locs 0 0 Q (F0 m 66 ls []) := by
        intro v Xa hv hIa hrem H locs hS ls hl
        refine lv_aload_n hx hb dX4_insert_66 rfl (lv_at hl 0 rfl) ?_
        refine db_get hx hb hts hown hK hS 4 0 (bb_k 4 rfl) rfl db_c4 0 (by decide) wd_130 rfl dX4_insert_67 ?_
        refine lv_iload_n hx hb dX4_insert_70 rfl (lv_at hl 2 rfl) ?_
        refine lv_aload_n hx hb dX4_insert_71 rfl (lv_at hl 1 rfl) ?_
        refine db_ast5 hx hb hK hS v rfl (by omega) hn2 (nI b) (db_in.nI hb1) hcn (nI_clamp (by omega)) dX4_insert_72 (fun H locs hS => ?_)
        obtain ⟨X1, eX1⟩ : ∃ z, z = db_up Xa 5 0 v (nI b) := ⟨_, rfl⟩
        rw [← eX1] at hS
        refine lv_aload_n hx hb dX4_insert_73 rfl (lv_at hl 0 rfl) ?_
        refine lv_dup hx hb dX4_insert_74 rfl ?_
        refine db_get hx hb hts hown hK hS 4 0 (bb_k 4 rfl) rfl db_c4 1 (by decide) wd_132 rfl dX4_insert_75 ?_
        refine lv_iconst (v := 1) hx hb dX4_insert_78 (by decide) ?_
        refine lv_iadd hx hb dX4_insert_79 ?_
        refine db_put hx hb hts hown hK hS 4 0 (bb_k 4 rfl) rfl db_c4 1 (by decide) wd_132 rfl rfl rfl (Nat.le_of_ble_eq_true rfl) rfl dX4_insert_80 (fun H locs hS => ?_)
        obtain ⟨X2, eX2⟩ : ∃ z, z = db_up X1 4 0 1 ((X1 4 0 1) + 1) := ⟨_, rfl⟩
        rw [← eX2] at hS
        refine lv_iconst (v := 1) hx hb dX4_insert_83 (by decide) ?_
        exact hret _ _ _ _ _ _ hS (by rw [bb_ins, if_neg (Nat.not_le.mpr hszN), if_pos c17]) (by rw [bb_ins, if_neg (Nat.not_le.mpr hszN), if_pos c17, hrem, eX2, eX1]; rfl) dX4_insert_84
      refine lv_aload_n hx hb dX4_insert_22 rfl (lv_at hl 0 rfl) ?_
      refine db_get hx hb hts hown hK hS 4 0 (bb_k 4 rfl) rfl db_c4 1 (by decide) wd_132 rfl dX4_insert_23 ?_
      rw [show X 4 0 1 = nI sz from hI.2.2.1]
      refine lv_istore_n (lv' := [(2, .int (nI sz)), (0, .ref (L 4 0)), (1, .ref (L 12 b))]) hx hb dX4_insert_26 rfl hl (by decide) rfl (fun ls hl => ?_)
      have K27 : ∀ (q : Nat) (v : Nat) (Xa : db_X) (hq : v + 1 ≤ q) (hv : v ≤ sz) (hIa : bb_I N cnt sz Xa) (hrem : bb_insF b sz X = bb_insF b v Xa) (H : Heap) (locs : List Loc) (hS : db_S Γ A s.heap L (bb_ok (N 0) cnt) (bb_cel Γ N L) Xa H locs) (ls : Array Slot) (hl : lv_has ls 3 [(0, .ref (L 4 0)), (1, .ref (L 12 b)), (2, .int (nI v))]), W p l e (db_rm 3 66) s m args below meth c H locs 0 0 Q (F0 m 27 ls []) := by
        intro q27
        induction q27 with
        | zero =>
          intro v Xa hq27 hv hIa hrem
          exact absurd hq27 (by omega)
        | succ q27 ih27 =>
          intro v Xa hq27 hv hIa hrem H locs hS ls hl
          refine lv_iload_n hx hb dX4_insert_27 rfl (lv_at hl 2 rfl) ?_
          refine lv_if_le (tgt := 66) hx hb dX4_insert_28 (by decide) (fun c28 => ?_) (fun c28 => ?_)
          · have hv0 : v = 0 := by
              rcases Nat.eq_zero_or_pos v with z | z
              · exact z
              · exact absurd c28 (nI_nle z (by omega))
            exact K66 v Xa hv hIa (by rw [hrem, hv0]; rfl) _ _ hS _ (lv_sub hl [0, 1, 2] rfl)
          · obtain ⟨u, rfl⟩ : ∃ u, v = u + 1 := by
              cases v with
              | zero => exact absurd (show nI 0 ≤ 0 by decide) c28
              | succ u => exact ⟨u, rfl⟩
            have hu : u < sz := by omega
            have hlk : db_in (bb_sec Xa u 2) (N 1) := (hIa.2.2.2.2 u hu).2
            refine lv_aload_n hx hb dX4_insert_31 rfl (lv_at hl 1 rfl) ?_
            refine lv_aload_n hx hb dX4_insert_32 rfl (lv_at hl 0 rfl) ?_
            refine db_get hx hb hts hown hK hS 4 0 (bb_k 4 rfl) rfl db_c4 0 (by decide) wd_130 rfl dX4_insert_33 ?_
            refine lv_iload_n hx hb dX4_insert_36 rfl (lv_at hl 2 rfl) ?_
            refine lv_iconst (v := 1) hx hb dX4_insert_37 (by decide) ?_
            refine lv_isub hx hb dX4_insert_38 ?_
            rw [nI_pred]
            refine db_ald hx hb hK hS 5 0 (bb_k 5 rfl) 3 rfl rfl u rfl (Nat.lt_of_lt_of_le hu hIa.2.2.2.1) hn2 (bb_rowf (hIa.2.2.2.2 u hu).1 hcn) dX4_insert_39 ?_
            refine db_cVN (As := [.ref (L 12 ((Xa 5 0 u).toNatClampNeg))]) (rest := []) (st1 := [.int (bb_gb Xa b ((Xa 5 0 u).toNatClampNeg))]) hC hS 12 b (bb_kS hb1) rfl db_c3 (c_X3_goesBefore l Γ N L cnt Xa hN b ((Xa 5 0 u).toNatClampNeg) hb1 ((hIa.2.2.2.2 u hu).1.lt hcn)) (cw_X3_goesBefore (Nat.le_of_ble_eq_true rfl) (Nat.le_of_ble_eq_true rfl)) wn_260 wd_262 ws_7 rfl hl.1 rfl (Nat.le_of_ble_eq_true rfl) dX4_insert_40 ⟨Nat.le_of_ble_eq_true rfl, Nat.le_of_ble_eq_true rfl⟩ rfl (fun H locs hS => ?_)
            refine lv_if_eq (tgt := 66) hx hb dX4_insert_43 (by decide) (fun c43 => ?_) (fun c43 => ?_)
            · exact K66 (u + 1) Xa hv hIa (by rw [hrem, bb_insF, if_pos c43]) _ _ hS _ (lv_sub hl [0, 1, 2] rfl)
            · refine lv_aload_n hx hb dX4_insert_46 rfl (lv_at hl 0 rfl) ?_
              refine db_get hx hb hts hown hK hS 4 0 (bb_k 4 rfl) rfl db_c4 0 (by decide) wd_130 rfl dX4_insert_47 ?_
              refine lv_iload_n hx hb dX4_insert_50 rfl (lv_at hl 2 rfl) ?_
              refine lv_aload_n hx hb dX4_insert_51 rfl (lv_at hl 0 rfl) ?_
              refine db_get hx hb hts hown hK hS 4 0 (bb_k 4 rfl) rfl db_c4 0 (by decide) wd_130 rfl dX4_insert_52 ?_
              refine lv_iload_n hx hb dX4_insert_55 rfl (lv_at hl 2 rfl) ?_
              refine lv_iconst (v := 1) hx hb dX4_insert_56 (by decide) ?_
              refine lv_isub hx hb dX4_insert_57 ?_
              rw [nI_pred]
              refine db_ald hx hb hK hS 5 0 (bb_k 5 rfl) 3 rfl rfl u rfl (Nat.lt_of_lt_of_le hu hIa.2.2.2.1) hn2 (bb_rowf (hIa.2.2.2.2 u hu).1 hcn) dX4_insert_58 ?_
              refine db_ast5 hx hb hK hS (u + 1) rfl (by omega) hn2 (Xa 5 0 u) (hIa.2.2.2.2 u hu).1 hcn rfl dX4_insert_59 (fun H locs hS => ?_)
              obtain ⟨X3, eX3⟩ : ∃ z, z = db_up Xa 5 0 (u + 1) (Xa 5 0 u) := ⟨_, rfl⟩
              rw [← eX3] at hS
              refine lv_iinc (v := (nI u)) (lv' := [(2, .int (nI u)), (0, .ref (L 4 0)), (1, .ref (L 12 b))]) hx hb dX4_insert_60 hl (k := 2) rfl (by rw [show Int32.ofInt (-1) = -1 from rfl]; exact pk_m1 u) (by decide) rfl (fun ls hl => ?_)
              refine lv_goto (tgt := 27) hx hb dX4_insert_63 (by decide) ?_
              exact ih27 u X3 (by omega) (by omega) (by rw [eX3]; exact hIa.up5 (hIa.2.2.2.2 u hu).1 (hIa.2.2.2.2 u hu).2) (by rw [hrem, bb_insF, if_neg c43, eX3]) _ _ hS _ (lv_sub hl [1, 2, 0] rfl)
      exact K27 _ sz X (Nat.le_refl _) (Nat.le_refl _) hI rfl _ _ hS _ (lv_sub hl [1, 2, 0] rfl)
    · exact K20  (by rw [bb_ins, if_neg (fun q => c9 ((nI_leI hn2 hsz).mpr q)), if_neg c17]) _ _ hS _ (lv_sub hl [] rfl)
