/-! the law's loop, and its start -/
theorem lw_more {i L : Nat} (hi : i < 2 ^ 31) (hL : L < 2 ^ 31) (h : ¬ nI L - 5 < nI i) : i + 5 ≤ L := by
  have h : ¬ nI L - nI 5 < nI i := h
  refine Nat.not_lt.mp (fun z => h ?_)
  by_cases c5 : L < 5
  · have n0 := nI_sub_neg (a := L) (b := 5) c5 (by decide)
    rw [Int32.lt_iff_toInt_lt] at n0 ⊢
    rw [nI_toInt hi]
    have e0 : (0 : Int32).toInt = 0 := by decide
    omega
  · rw [pk_sub (by omega)]
    exact nI_lt (by omega) hi
section LAWE
variable {p : Program} {l : Launch} {e : Env} {s : State} {m : MethodId} {below : List Frame} {meth : Method} {c : Code} {Γ : db_G} {N : Nat → Nat} {b q i L : Nat} {xs : Nat → Int32}
theorem lw_exit (hC : db_Cx p s m #[Value.ref b] meth c Γ RL cL_law 4 (some .boolean)) : lw_G p l e s m below meth c Γ N b q i 601 := by
  intro Lb Lm X Y sz cnt th tm la hB hM H locs cells slots ls h hRb hRm hW hl hc hs hq
  obtain ⟨hx, hb, hml, hr0, hlocks, hown, hts, hK⟩ := id hC
  refine lv_iconst (v := 1) hx hb dL_law_601 (by decide) ?_
  refine va_forget (fun q hq => hW.1.2.2.1.2.2 q hq) ?_
  refine W.widen (k := 600000) (n := 7302250) (by omega) (by omega) ?_
  exact lw_ret hx hb hr0 hlocks dL_law_602
theorem lw_tail (hC : db_Cx p s m #[Value.ref b] meth c Γ RL cL_law 4 (some .boolean)) (hd : lw_G p l e s m below meth c Γ N b q (i + 5) 68) : lw_G p l e s m below meth c Γ N b q i 595 := by
  intro Lb Lm X Y sz cnt th tm la hB hM H locs cells slots ls h hRb hRm hW hl hc hs hq
  obtain ⟨hx, hb, hml, hr0, hlocks, hown, hts, hK⟩ := id hC
  refine lv_iinc (v := nI (i + 5)) (lv' := [(3, .int (nI (i + 5))), (0, .ref b), (1, .ref (Lb 0 0)), (2, .ref (Lm 0 0))]) hx hb dL_law_595 hl (k := 3) rfl (by rw [← nI_add]; rfl) (by decide) rfl (fun ls hl => ?_)
  refine lv_goto (tgt := 68) hx hb dL_law_598 (by decide) ?_
  exact hd Lb Lm X Y sz cnt th tm la hB hM H locs cells slots ls h hRb hRm hW (lv_sub hl [1, 2, 3, 0] rfl) hc hs hq
/-- the tests at the head -/
theorem lw_head (hC : db_Cx p s m #[Value.ref b] meth c Γ RL cL_law 4 (some .boolean)) (hX : va_X b L xs s s.heap) (hbl : b < s.heap.size) (hL31 : L < 2 ^ 31) (hi31 : i < 2 ^ 31) (hd : i + 5 ≤ L → ∀ (Lb Lm : Nat → Nat → Nat) (X Y : db_X) (sz cnt th tm la : Nat) (hB hM : db_Mem) (H : Heap) (locs : List Loc) (cells slots : Nat) (ls : Array Slot), rr N X Y sz cnt th tm la → db_R Lb (bb_ok (N 0) cnt) (bb_cel Γ N Lb) X hB → db_R Lm mm_ok (mm_cel Γ N Lm) Y hM → db_W2 Γ (fun z => s.heap.size ≤ z) s.heap hB hM H locs →
    lv_has ls 4 [(0, .ref b), (1, .ref (Lb 0 0)), (2, .ref (Lm 0 0)), (3, .int (nI i))] → cells + q ≤ 600000 → slots + 5 * q ≤ 7302250 → cnt + q ≤ 1000 → ∀ j : Nat, j < 2 ^ 5 → W p l e room_1 s m #[Value.ref b] below meth c H locs cells slots (lw_Z below #[Value.ref b] s) (F0 m 82 ls [.int (nI j)])) : lw_G p l e s m below meth c Γ N b q i 68 := by
  intro Lb Lm X Y sz cnt th tm la hB hM H locs cells slots ls h hRb hRm hW hl hc hs hq
  obtain ⟨hx, hb, hml, hr0, hlocks, hown, hts, hK⟩ := id hC
  have hbA : ¬ s.heap.size ≤ b := by omega
  refine lv_iload_n hx hb dL_law_68 rfl (lv_at hl 3 rfl) ?_
  refine lv_aload_n hx hb dL_law_69 rfl (lv_at hl 0 rfl) ?_
  refine va_slen hx hb hX hbl hbA hW.1.2.2.1 dL_law_70 ?_
  refine lv_iconst (v := 5) hx hb dL_law_71 (by decide) ?_
  refine lv_isub hx hb dL_law_72 ?_
  refine lv_icmp_gt (tgt := 601) hx hb dL_law_73 (by decide) (fun _ => ?_) (fun c73 => ?_)
  · exact lw_exit hC Lb Lm X Y sz cnt th tm la hB hM H locs cells slots ls h hRb hRm hW hl hc hs hq
  · have hi5 : i + 5 ≤ L := lw_more hi31 hL31 c73
    refine lv_aload_n hx hb dL_law_76 rfl (lv_at hl 0 rfl) ?_
    refine lv_iload_n hx hb dL_law_77 rfl (lv_at hl 3 rfl) ?_
    refine va_sld hx hb hX hbl hbA hW.1.2.2.1 (vp_in_nI (by omega) hL31) dL_law_78 ?_
    refine lv_bipush (v := 31) hx hb dL_law_79 (by decide) ?_
    refine lv_iand hx hb dL_law_81 ?_
    obtain ⟨j, hj, ej⟩ := pk_andE (xs (nI i).toNatClampNeg) (m := 31) 5 (by decide)
    rw [ej]
    exact hd hi5 Lb Lm X Y sz cnt th tm la hB hM H locs cells slots ls h hRb hRm hW hl hc hs hq j hj
theorem lw_loop (hC : db_Cx p s m #[Value.ref b] meth c Γ RL cL_law 4 (some .boolean)) (hX : va_X b L xs s s.heap) (hbl : b < s.heap.size) (hL31 : L + 5 < 2 ^ 31) (hN : bb_N N) : ∀ (q i : Nat), i ≤ L + 5 → L < i + 5 * q + 5 → lw_G p l e s m below meth c Γ N b q i 68 := by
  intro q
  induction q with
  | zero =>
    intro i hi hq0
    refine lw_head (L := L) hC hX hbl (by omega) (by omega) (fun z => ?_)
    exact absurd z (by omega)
  | succ q ih =>
    intro i hi hq0
    refine lw_head (L := L) hC hX hbl (by omega) (by omega) (fun hi5 => ?_)
    have tail : lw_G p l e s m below meth c Γ N b q i 595 := lw_tail hC (ih (i + 5) (by omega) (by omega))
    intro Lb Lm X Y sz cnt th tm la hB hM H locs cells slots ls h hRb hRm hW hl hc hs hq j hj
    obtain ⟨hx, hb, hml, hr0, hlocks, hown, hts, hK⟩ := id hC
    have hL3 : L < 2 ^ 31 := by omega
    match j, hj with
    | 0, _ =>
      refine lv_tableIn (tgt := 164) (off := 82) hx hb dL_law_82 (by decide) (by decide) (by decide) (by decide) ?_
      exact lw_case_addTask hC hX hbl hL3 hN hi5 tail Lb Lm X Y sz cnt th tm la hB hM H locs cells slots ls h hRb hRm hW hl hc hs hq
    | 1, _ =>
      refine lv_tableIn (tgt := 207) (off := 125) hx hb dL_law_82 (by decide) (by decide) (by decide) (by decide) ?_
      exact lw_case_addSection hC hX hbl hL3 hN hi5 tail Lb Lm X Y sz cnt th tm la hB hM H locs cells slots ls h hRb hRm hW hl hc hs hq
    | 2, _ =>
      refine lv_tableIn (tgt := 260) (off := 178) hx hb dL_law_82 (by decide) (by decide) (by decide) (by decide) ?_
      exact lw_case_removeTask hC hX hbl hL3 hN hi5 tail Lb Lm X Y sz cnt th tm la hB hM H locs cells slots ls h hRb hRm hW hl hc hs hq
    | 3, _ =>
      refine lv_tableIn (tgt := 283) (off := 201) hx hb dL_law_82 (by decide) (by decide) (by decide) (by decide) ?_
      exact lw_case_admissible hC hX hbl hL3 hN hi5 tail Lb Lm X Y sz cnt th tm la hB hM H locs cells slots ls h hRb hRm hW hl hc hs hq
    | 4, _ =>
      refine lv_tableIn (tgt := 296) (off := 214) hx hb dL_law_82 (by decide) (by decide) (by decide) (by decide) ?_
      exact lw_case_tick hC hX hbl hL3 hN hi5 tail Lb Lm X Y sz cnt th tm la hB hM H locs cells slots ls h hRb hRm hW hl hc hs hq
    | 5, _ =>
      refine lv_tableIn (tgt := 309) (off := 227) hx hb dL_law_82 (by decide) (by decide) (by decide) (by decide) ?_
      exact lw_case_run hC hX hbl hL3 hN hi5 tail Lb Lm X Y sz cnt th tm la hB hM H locs cells slots ls h hRb hRm hW hl hc hs hq
    | 6, _ =>
      refine lv_tableIn (tgt := 332) (off := 250) hx hb dL_law_82 (by decide) (by decide) (by decide) (by decide) ?_
      exact lw_case_ran hC hX hbl hL3 hN hi5 tail Lb Lm X Y sz cnt th tm la hB hM H locs cells slots ls h hRb hRm hW hl hc hs hq
    | 7, _ =>
      refine lv_tableIn (tgt := 355) (off := 273) hx hb dL_law_82 (by decide) (by decide) (by decide) (by decide) ?_
      exact lw_case_remaining hC hX hbl hL3 hN hi5 tail Lb Lm X Y sz cnt th tm la hB hM H locs cells slots ls h hRb hRm hW hl hc hs hq
    | 8, _ =>
      refine lv_tableIn (tgt := 378) (off := 296) hx hb dL_law_82 (by decide) (by decide) (by decide) (by decide) ?_
      exact lw_case_deadlineOf hC hX hbl hL3 hN hi5 tail Lb Lm X Y sz cnt th tm la hB hM H locs cells slots ls h hRb hRm hW hl hc hs hq
    | 9, _ =>
      refine lv_tableIn (tgt := 401) (off := 319) hx hb dL_law_82 (by decide) (by decide) (by decide) (by decide) ?_
      exact lw_case_effective hC hX hbl hL3 hN hi5 tail Lb Lm X Y sz cnt th tm la hB hM H locs cells slots ls h hRb hRm hW hl hc hs hq
    | 10, _ =>
      refine lv_tableIn (tgt := 424) (off := 342) hx hb dL_law_82 (by decide) (by decide) (by decide) (by decide) ?_
      exact lw_case_waitsFor hC hX hbl hL3 hN hi5 tail Lb Lm X Y sz cnt th tm la hB hM H locs cells slots ls h hRb hRm hW hl hc hs hq
    | 11, _ =>
      refine lv_tableIn (tgt := 447) (off := 365) hx hb dL_law_82 (by decide) (by decide) (by decide) (by decide) ?_
      exact lw_case_owner hC hX hbl hL3 hN hi5 tail Lb Lm X Y sz cnt th tm la hB hM H locs cells slots ls h hRb hRm hW hl hc hs hq
    | 12, _ =>
      refine lv_tableIn (tgt := 470) (off := 388) hx hb dL_law_82 (by decide) (by decide) (by decide) (by decide) ?_
      exact lw_case_waiters hC hX hbl hL3 hN hi5 tail Lb Lm X Y sz cnt th tm la hB hM H locs cells slots ls h hRb hRm hW hl hc hs hq
    | 13, _ =>
      refine lv_tableIn (tgt := 493) (off := 411) hx hb dL_law_82 (by decide) (by decide) (by decide) (by decide) ?_
      exact lw_case_missCount hC hX hbl hL3 hN hi5 tail Lb Lm X Y sz cnt th tm la hB hM H locs cells slots ls h hRb hRm hW hl hc hs hq
    | 14, _ =>
      refine lv_tableIn (tgt := 506) (off := 424) hx hb dL_law_82 (by decide) (by decide) (by decide) (by decide) ?_
      exact lw_case_miss hC hX hbl hL3 hN hi5 tail Lb Lm X Y sz cnt th tm la hB hM H locs cells slots ls h hRb hRm hW hl hc hs hq
    | 15, _ =>
      refine lv_tableIn (tgt := 539) (off := 457) hx hb dL_law_82 (by decide) (by decide) (by decide) (by decide) ?_
      exact lw_case_task hC hX hbl hL3 hN hi5 tail Lb Lm X Y sz cnt th tm la hB hM H locs cells slots ls h hRb hRm hW hl hc hs hq
    | 16, _ =>
      refine lv_tableIn (tgt := 572) (off := 490) hx hb dL_law_82 (by decide) (by decide) (by decide) (by decide) ?_
      exact lw_case_count hC hX hbl hL3 hN hi5 tail Lb Lm X Y sz cnt th tm la hB hM H locs cells slots ls h hRb hRm hW hl hc hs hq
    | n + 17, hj =>
      refine lv_tableOut (tgt := 595) hx hb dL_law_82 (Or.inr (by rw [nI_toInt (by omega)]; omega)) (by decide) ?_
      exact tail Lb Lm X Y sz cnt th tm la hB hM H locs cells slots ls h hRb hRm hW hl (by omega) (by omega) (by omega)
end LAWE
