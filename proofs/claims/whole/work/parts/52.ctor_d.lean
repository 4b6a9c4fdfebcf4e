set_option maxHeartbeats 4000000 in
set_option maxRecDepth 100000 in
theorem n_X7_init (l : Launch) (Γ : db_G) (a : Nat) (h : db_Mem) (t lk se lg la0 : Int32) (n nl ns ng la : Nat) (e1 : bb_near t 1 40 = n) (e2 : bb_near lk 0 16 = nl) (e3 : bb_near se 0 120 = ns) (e4 : bb_near lg 0 100 = ng) (e5 : bb_near la0 1 20000 = la) (ha : h a = some (.inr (7, [.int 0, .int 0, .int 0, .int 0, .int 0, .int 0, .null, .null, .null, .null, .null, .null, .null, .null, .null, .null, .null, .null, .null, .null, .null, .null, .null, .null, .int 0, .null, .null, .null, .null, .null, .int 0, .null, .null, .null, .int 0, .int 0]))) : db_N l Γ yX7_init cX7_init 7 none (db_rc 2 60 26 1516) [.ref a, .int t, .int lk, .int se, .int lg, .int la0] h (a + 1) (fun v h' _ => v = none ∧ ∃ L : Nat → Nat → Nat, L 0 0 = a ∧ db_R L mm_ok (mm_cel Γ (bb_mkN n nl ns ng) L) (mm_Y0 la) h') := by
  refine db_introN (by decide +kernel) (Nat.le_of_ble_eq_true rfl) ?_
  intro p e s m args below meth c A Q ls hC hnm hz hW hl hret hQ
  have hC : db_Cx p s m args meth c Γ RX7 cX7_init 7 none := hC
  obtain ⟨hx, hb, hml, hr, hlocks, hown, hts, hK⟩ := id hC
  have hin2 : meth.name = "<init>" := hnm
  have hl : lv_has ls 7 [(0, .ref a), (1, .int t), (2, .int lk), (3, .int se), (4, .int lg), (5, .int la0)] := hl
  have fA : ∀ i, i < 0 → h (a + 1 + i) = some (mm_ar Γ i) := fun i hi => absurd hi (by omega)
  have hla := lv_at hl 0 rfl
  refine lv_aload_n hx hb dX7_init_0 rfl hla ?_
  refine db_objI hC hl.1 wd_437 wd_17 wo_code (by decide) (Nat.le_of_ble_eq_true rfl) dX7_init_1 ?_
  have fo := ha
  refine mm_stepZ hC hin2 0 6 40 hW hz fo fA hla rfl (by decide) (by decide) wd_447 rfl rfl (fun _ => rfl) (fun _ => rfl) (Nat.le_of_ble_eq_true rfl) rfl dX7_init_4 dX7_init_5 dX7_init_7 dX7_init_9 (Nat.le_of_ble_eq_true rfl) (Nat.le_of_ble_eq_true rfl) ?_
  clear hW hz fo fA
  intro h H locs hW hz fo fA
  have fo : h a = some (.inr (7, [.int 0, .int 0, .int 0, .int 0, .int 0, .int 0, .ref (a + 1), .null, .null, .null, .null, .null, .null, .null, .null, .null, .null, .null, .null, .null, .null, .null, .null, .null, .int 0, .null, .null, .null, .null, .null, .int 0, .null, .null, .null, .int 0, .int 0])) := fo
  refine mm_stepI hC hin2 1 7 40 hW hz fo fA hla rfl (by decide) (by decide) wd_448 rfl rfl (fun _ => rfl) (fun _ => rfl) (Nat.le_of_ble_eq_true rfl) rfl dX7_init_12 dX7_init_13 dX7_init_15 dX7_init_17 (Nat.le_of_ble_eq_true rfl) (Nat.le_of_ble_eq_true rfl) ?_
  clear hW hz fo fA
  intro h H locs hW hz fo fA
  have fo : h a = some (.inr (7, [.int 0, .int 0, .int 0, .int 0, .int 0, .int 0, .ref (a + 1), .ref (a + 2), .null, .null, .null, .null, .null, .null, .null, .null, .null, .null, .null, .null, .null, .null, .null, .null, .int 0, .null, .null, .null, .null, .null, .int 0, .null, .null, .null, .int 0, .int 0])) := fo
  refine mm_stepI hC hin2 2 8 40 hW hz fo fA hla rfl (by decide) (by decide) wd_449 rfl rfl (fun _ => rfl) (fun _ => rfl) (Nat.le_of_ble_eq_true rfl) rfl dX7_init_20 dX7_init_21 dX7_init_23 dX7_init_25 (Nat.le_of_ble_eq_true rfl) (Nat.le_of_ble_eq_true rfl) ?_
  clear hW hz fo fA
  intro h H locs hW hz fo fA
  have fo : h a = some (.inr (7, [.int 0, .int 0, .int 0, .int 0, .int 0, .int 0, .ref (a + 1), .ref (a + 2), .ref (a + 3), .null, .null, .null, .null, .null, .null, .null, .null, .null, .null, .null, .null, .null, .null, .null, .int 0, .null, .null, .null, .null, .null, .int 0, .null, .null, .null, .int 0, .int 0])) := fo
  refine mm_stepI hC hin2 3 9 40 hW hz fo fA hla rfl (by decide) (by decide) wd_450 rfl rfl (fun _ => rfl) (fun _ => rfl) (Nat.le_of_ble_eq_true rfl) rfl dX7_init_28 dX7_init_29 dX7_init_31 dX7_init_33 (Nat.le_of_ble_eq_true rfl) (Nat.le_of_ble_eq_true rfl) ?_
  clear hW hz fo fA
  intro h H locs hW hz fo fA
  have fo : h a = some (.inr (7, [.int 0, .int 0, .int 0, .int 0, .int 0, .int 0, .ref (a + 1), .ref (a + 2), .ref (a + 3), .ref (a + 4), .null, .null, .null, .null, .null, .null, .null, .null, .null, .null, .null, .null, .null, .null, .int 0, .null, .null, .null, .null, .null, .int 0, .null, .null, .null, .int 0, .int 0])) := fo
  refine mm_stepI hC hin2 4 10 40 hW hz fo fA hla rfl (by decide) (by decide) wd_451 rfl rfl (fun _ => rfl) (fun _ => rfl) (Nat.le_of_ble_eq_true rfl) rfl dX7_init_36 dX7_init_37 dX7_init_39 dX7_init_41 (Nat.le_of_ble_eq_true rfl) (Nat.le_of_ble_eq_true rfl) ?_
  clear hW hz fo fA
  intro h H locs hW hz fo fA
  have fo : h a = some (.inr (7, [.int 0, .int 0, .int 0, .int 0, .int 0, .int 0, .ref (a + 1), .ref (a + 2), .ref (a + 3), .ref (a + 4), .ref (a + 5), .null, .null, .null, .null, .null, .null, .null, .null, .null, .null, .null, .null, .null, .int 0, .null, .null, .null, .null, .null, .int 0, .null, .null, .null, .int 0, .int 0])) := fo
  refine mm_stepI hC hin2 5 11 40 hW hz fo fA hla rfl (by decide) (by decide) wd_452 rfl rfl (fun _ => rfl) (fun _ => rfl) (Nat.le_of_ble_eq_true rfl) rfl dX7_init_44 dX7_init_45 dX7_init_47 dX7_init_49 (Nat.le_of_ble_eq_true rfl) (Nat.le_of_ble_eq_true rfl) ?_
  clear hW hz fo fA
  intro h H locs hW hz fo fA
  have fo : h a = some (.inr (7, [.int 0, .int 0, .int 0, .int 0, .int 0, .int 0, .ref (a + 1), .ref (a + 2), .ref (a + 3), .ref (a + 4), .ref (a + 5), .ref (a + 6), .null, .null, .null, .null, .null, .null, .null, .null, .null, .null, .null, .null, .int 0, .null, .null, .null, .null, .null, .int 0, .null, .null, .null, .int 0, .int 0])) := fo
  refine mm_stepI hC hin2 6 12 40 hW hz fo fA hla rfl (by decide) (by decide) wd_453 rfl rfl (fun _ => rfl) (fun _ => rfl) (Nat.le_of_ble_eq_true rfl) rfl dX7_init_52 dX7_init_53 dX7_init_55 dX7_init_57 (Nat.le_of_ble_eq_true rfl) (Nat.le_of_ble_eq_true rfl) ?_
  clear hW hz fo fA
  intro h H locs hW hz fo fA
  have fo : h a = some (.inr (7, [.int 0, .int 0, .int 0, .int 0, .int 0, .int 0, .ref (a + 1), .ref (a + 2), .ref (a + 3), .ref (a + 4), .ref (a + 5), .ref (a + 6), .ref (a + 7), .null, .null, .null, .null, .null, .null, .null, .null, .null, .null, .null, .int 0, .null, .null, .null, .null, .null, .int 0, .null, .null, .null, .int 0, .int 0])) := fo
  refine mm_stepI hC hin2 7 13 40 hW hz fo fA hla rfl (by decide) (by decide) wd_454 rfl rfl (fun _ => rfl) (fun _ => rfl) (Nat.le_of_ble_eq_true rfl) rfl dX7_init_60 dX7_init_61 dX7_init_63 dX7_init_65 (Nat.le_of_ble_eq_true rfl) (Nat.le_of_ble_eq_true rfl) ?_
  clear hW hz fo fA
  intro h H locs hW hz fo fA
  have fo : h a = some (.inr (7, [.int 0, .int 0, .int 0, .int 0, .int 0, .int 0, .ref (a + 1), .ref (a + 2), .ref (a + 3), .ref (a + 4), .ref (a + 5), .ref (a + 6), .ref (a + 7), .ref (a + 8), .null, .null, .null, .null, .null, .null, .null, .null, .null, .null, .int 0, .null, .null, .null, .null, .null, .int 0, .null, .null, .null, .int 0, .int 0])) := fo
  refine mm_stepI hC hin2 8 14 40 hW hz fo fA hla rfl (by decide) (by decide) wd_455 rfl rfl (fun _ => rfl) (fun _ => rfl) (Nat.le_of_ble_eq_true rfl) rfl dX7_init_68 dX7_init_69 dX7_init_71 dX7_init_73 (Nat.le_of_ble_eq_true rfl) (Nat.le_of_ble_eq_true rfl) ?_
  clear hW hz fo fA
  intro h H locs hW hz fo fA
  have fo : h a = some (.inr (7, [.int 0, .int 0, .int 0, .int 0, .int 0, .int 0, .ref (a + 1), .ref (a + 2), .ref (a + 3), .ref (a + 4), .ref (a + 5), .ref (a + 6), .ref (a + 7), .ref (a + 8), .ref (a + 9), .null, .null, .null, .null, .null, .null, .null, .null, .null, .int 0, .null, .null, .null, .null, .null, .int 0, .null, .null, .null, .int 0, .int 0])) := fo
  refine mm_stepI hC hin2 9 15 40 hW hz fo fA hla rfl (by decide) (by decide) wd_456 rfl rfl (fun _ => rfl) (fun _ => rfl) (Nat.le_of_ble_eq_true rfl) rfl dX7_init_76 dX7_init_77 dX7_init_79 dX7_init_81 (Nat.le_of_ble_eq_true rfl) (Nat.le_of_ble_eq_true rfl) ?_
  clear hW hz fo fA
  intro h H locs hW hz fo fA
  have fo : h a = some (.inr (7, [.int 0, .int 0, .int 0, .int 0, .int 0, .int 0, .ref (a + 1), .ref (a + 2), .ref (a + 3), .ref (a + 4), .ref (a + 5), .ref (a + 6), .ref (a + 7), .ref (a + 8), .ref (a + 9), .ref (a + 10), .null, .null, .null, .null, .null, .null, .null, .null, .int 0, .null, .null, .null, .null, .null, .int 0, .null, .null, .null, .int 0, .int 0])) := fo
  refine mm_stepI hC hin2 10 16 40 hW hz fo fA hla rfl (by decide) (by decide) wd_457 rfl rfl (fun _ => rfl) (fun _ => rfl) (Nat.le_of_ble_eq_true rfl) rfl dX7_init_84 dX7_init_85 dX7_init_87 dX7_init_89 (Nat.le_of_ble_eq_true rfl) (Nat.le_of_ble_eq_true rfl) ?_
  clear hW hz fo fA
  intro h H locs hW hz fo fA
  have fo : h a = some (.inr (7, [.int 0, .int 0, .int 0, .int 0, .int 0, .int 0, .ref (a + 1), .ref (a + 2), .ref (a + 3), .ref (a + 4), .ref (a + 5), .ref (a + 6), .ref (a + 7), .ref (a + 8), .ref (a + 9), .ref (a + 10), .ref (a + 11), .null, .null, .null, .null, .null, .null, .null, .int 0, .null, .null, .null, .null, .null, .int 0, .null, .null, .null, .int 0, .int 0])) := fo
  refine mm_stepZ hC hin2 11 17 40 hW hz fo fA hla rfl (by decide) (by decide) wd_458 rfl rfl (fun _ => rfl) (fun _ => rfl) (Nat.le_of_ble_eq_true rfl) rfl dX7_init_92 dX7_init_93 dX7_init_95 dX7_init_97 (Nat.le_of_ble_eq_true rfl) (Nat.le_of_ble_eq_true rfl) ?_
  clear hW hz fo fA
  intro h H locs hW hz fo fA
  have fo : h a = some (.inr (7, [.int 0, .int 0, .int 0, .int 0, .int 0, .int 0, .ref (a + 1), .ref (a + 2), .ref (a + 3), .ref (a + 4), .ref (a + 5), .ref (a + 6), .ref (a + 7), .ref (a + 8), .ref (a + 9), .ref (a + 10), .ref (a + 11), .ref (a + 12), .null, .null, .null, .null, .null, .null, .int 0, .null, .null, .null, .null, .null, .int 0, .null, .null, .null, .int 0, .int 0])) := fo
  refine mm_stepI hC hin2 12 18 40 hW hz fo fA hla rfl (by decide) (by decide) wd_459 rfl rfl (fun _ => rfl) (fun _ => rfl) (Nat.le_of_ble_eq_true rfl) rfl dX7_init_100 dX7_init_101 dX7_init_103 dX7_init_105 (Nat.le_of_ble_eq_true rfl) (Nat.le_of_ble_eq_true rfl) ?_
  clear hW hz fo fA
  intro h H locs hW hz fo fA
  have fo : h a = some (.inr (7, [.int 0, .int 0, .int 0, .int 0, .int 0, .int 0, .ref (a + 1), .ref (a + 2), .ref (a + 3), .ref (a + 4), .ref (a + 5), .ref (a + 6), .ref (a + 7), .ref (a + 8), .ref (a + 9), .ref (a + 10), .ref (a + 11), .ref (a + 12), .ref (a + 13), .null, .null, .null, .null, .null, .int 0, .null, .null, .null, .null, .null, .int 0, .null, .null, .null, .int 0, .int 0])) := fo
  refine mm_stepI hC hin2 13 19 40 hW hz fo fA hla rfl (by decide) (by decide) wd_460 rfl rfl (fun _ => rfl) (fun _ => rfl) (Nat.le_of_ble_eq_true rfl) rfl dX7_init_108 dX7_init_109 dX7_init_111 dX7_init_113 (Nat.le_of_ble_eq_true rfl) (Nat.le_of_ble_eq_true rfl) ?_
  clear hW hz fo fA
  intro h H locs hW hz fo fA
  have fo : h a = some (.inr (7, [.int 0, .int 0, .int 0, .int 0, .int 0, .int 0, .ref (a + 1), .ref (a + 2), .ref (a + 3), .ref (a + 4), .ref (a + 5), .ref (a + 6), .ref (a + 7), .ref (a + 8), .ref (a + 9), .ref (a + 10), .ref (a + 11), .ref (a + 12), .ref (a + 13), .ref (a + 14), .null, .null, .null, .null, .int 0, .null, .null, .null, .null, .null, .int 0, .null, .null, .null, .int 0, .int 0])) := fo
  refine mm_stepI hC hin2 14 20 40 hW hz fo fA hla rfl (by decide) (by decide) wd_461 rfl rfl (fun _ => rfl) (fun _ => rfl) (Nat.le_of_ble_eq_true rfl) rfl dX7_init_116 dX7_init_117 dX7_init_119 dX7_init_121 (Nat.le_of_ble_eq_true rfl) (Nat.le_of_ble_eq_true rfl) ?_
  clear hW hz fo fA
  intro h H locs hW hz fo fA
  have fo : h a = some (.inr (7, [.int 0, .int 0, .int 0, .int 0, .int 0, .int 0, .ref (a + 1), .ref (a + 2), .ref (a + 3), .ref (a + 4), .ref (a + 5), .ref (a + 6), .ref (a + 7), .ref (a + 8), .ref (a + 9), .ref (a + 10), .ref (a + 11), .ref (a + 12), .ref (a + 13), .ref (a + 14), .ref (a + 15), .null, .null, .null, .int 0, .null, .null, .null, .null, .null, .int 0, .null, .null, .null, .int 0, .int 0])) := fo
  refine mm_stepI hC hin2 15 21 40 hW hz fo fA hla rfl (by decide) (by decide) wd_462 rfl rfl (fun _ => rfl) (fun _ => rfl) (Nat.le_of_ble_eq_true rfl) rfl dX7_init_124 dX7_init_125 dX7_init_127 dX7_init_129 (Nat.le_of_ble_eq_true rfl) (Nat.le_of_ble_eq_true rfl) ?_
  clear hW hz fo fA
  intro h H locs hW hz fo fA
  have fo : h a = some (.inr (7, [.int 0, .int 0, .int 0, .int 0, .int 0, .int 0, .ref (a + 1), .ref (a + 2), .ref (a + 3), .ref (a + 4), .ref (a + 5), .ref (a + 6), .ref (a + 7), .ref (a + 8), .ref (a + 9), .ref (a + 10), .ref (a + 11), .ref (a + 12), .ref (a + 13), .ref (a + 14), .ref (a + 15), .ref (a + 16), .null, .null, .int 0, .null, .null, .null, .null, .null, .int 0, .null, .null, .null, .int 0, .int 0])) := fo
  refine mm_stepZ hC hin2 16 22 40 hW hz fo fA hla rfl (by decide) (by decide) wd_463 rfl rfl (fun _ => rfl) (fun _ => rfl) (Nat.le_of_ble_eq_true rfl) rfl dX7_init_132 dX7_init_133 dX7_init_135 dX7_init_137 (Nat.le_of_ble_eq_true rfl) (Nat.le_of_ble_eq_true rfl) ?_
  clear hW hz fo fA
  intro h H locs hW hz fo fA
  have fo : h a = some (.inr (7, [.int 0, .int 0, .int 0, .int 0, .int 0, .int 0, .ref (a + 1), .ref (a + 2), .ref (a + 3), .ref (a + 4), .ref (a + 5), .ref (a + 6), .ref (a + 7), .ref (a + 8), .ref (a + 9), .ref (a + 10), .ref (a + 11), .ref (a + 12), .ref (a + 13), .ref (a + 14), .ref (a + 15), .ref (a + 16), .ref (a + 17), .null, .int 0, .null, .null, .null, .null, .null, .int 0, .null, .null, .null, .int 0, .int 0])) := fo
  refine mm_stepI hC hin2 17 23 16 hW hz fo fA hla rfl (by decide) (by decide) wd_464 rfl rfl (fun _ => rfl) (fun _ => rfl) (Nat.le_of_ble_eq_true rfl) rfl dX7_init_140 dX7_init_141 dX7_init_143 dX7_init_145 (Nat.le_of_ble_eq_true rfl) (Nat.le_of_ble_eq_true rfl) ?_
  clear hW hz fo fA
  intro h H locs hW hz fo fA
  have fo : h a = some (.inr (7, [.int 0, .int 0, .int 0, .int 0, .int 0, .int 0, .ref (a + 1), .ref (a + 2), .ref (a + 3), .ref (a + 4), .ref (a + 5), .ref (a + 6), .ref (a + 7), .ref (a + 8), .ref (a + 9), .ref (a + 10), .ref (a + 11), .ref (a + 12), .ref (a + 13), .ref (a + 14), .ref (a + 15), .ref (a + 16), .ref (a + 17), .ref (a + 18), .int 0, .null, .null, .null, .null, .null, .int 0, .null, .null, .null, .int 0, .int 0])) := fo
  refine mm_stepI hC hin2 18 25 120 hW hz fo fA hla rfl (by decide) (by decide) wd_466 rfl rfl (fun _ => rfl) (fun _ => rfl) (Nat.le_of_ble_eq_true rfl) rfl dX7_init_148 dX7_init_149 dX7_init_151 dX7_init_153 (Nat.le_of_ble_eq_true rfl) (Nat.le_of_ble_eq_true rfl) ?_
  clear hW hz fo fA
  intro h H locs hW hz fo fA
  have fo : h a = some (.inr (7, [.int 0, .int 0, .int 0, .int 0, .int 0, .int 0, .ref (a + 1), .ref (a + 2), .ref (a + 3), .ref (a + 4), .ref (a + 5), .ref (a + 6), .ref (a + 7), .ref (a + 8), .ref (a + 9), .ref (a + 10), .ref (a + 11), .ref (a + 12), .ref (a + 13), .ref (a + 14), .ref (a + 15), .ref (a + 16), .ref (a + 17), .ref (a + 18), .int 0, .ref (a + 19), .null, .null, .null, .null, .int 0, .null, .null, .null, .int 0, .int 0])) := fo
  refine mm_stepI hC hin2 19 26 120 hW hz fo fA hla rfl (by decide) (by decide) wd_467 rfl rfl (fun _ => rfl) (fun _ => rfl) (Nat.le_of_ble_eq_true rfl) rfl dX7_init_156 dX7_init_157 dX7_init_159 dX7_init_161 (Nat.le_of_ble_eq_true rfl) (Nat.le_of_ble_eq_true rfl) ?_
  clear hW hz fo fA
  intro h H locs hW hz fo fA
  have fo : h a = some (.inr (7, [.int 0, .int 0, .int 0, .int 0, .int 0, .int 0, .ref (a + 1), .ref (a + 2), .ref (a + 3), .ref (a + 4), .ref (a + 5), .ref (a + 6), .ref (a + 7), .ref (a + 8), .ref (a + 9), .ref (a + 10), .ref (a + 11), .ref (a + 12), .ref (a + 13), .ref (a + 14), .ref (a + 15), .ref (a + 16), .ref (a + 17), .ref (a + 18), .int 0, .ref (a + 19), .ref (a + 20), .null, .null, .null, .int 0, .null, .null, .null, .int 0, .int 0])) := fo
  refine mm_stepI hC hin2 20 27 120 hW hz fo fA hla rfl (by decide) (by decide) wd_468 rfl rfl (fun _ => rfl) (fun _ => rfl) (Nat.le_of_ble_eq_true rfl) rfl dX7_init_164 dX7_init_165 dX7_init_167 dX7_init_169 (Nat.le_of_ble_eq_true rfl) (Nat.le_of_ble_eq_true rfl) ?_
  clear hW hz fo fA
  intro h H locs hW hz fo fA
  have fo : h a = some (.inr (7, [.int 0, .int 0, .int 0, .int 0, .int 0, .int 0, .ref (a + 1), .ref (a + 2), .ref (a + 3), .ref (a + 4), .ref (a + 5), .ref (a + 6), .ref (a + 7), .ref (a + 8), .ref (a + 9), .ref (a + 10), .ref (a + 11), .ref (a + 12), .ref (a + 13), .ref (a + 14), .ref (a + 15), .ref (a + 16), .ref (a + 17), .ref (a + 18), .int 0, .ref (a + 19), .ref (a + 20), .ref (a + 21), .null, .null, .int 0, .null, .null, .null, .int 0, .int 0])) := fo
  refine mm_stepI hC hin2 21 28 120 hW hz fo fA hla rfl (by decide) (by decide) wd_469 rfl rfl (fun _ => rfl) (fun _ => rfl) (Nat.le_of_ble_eq_true rfl) rfl dX7_init_172 dX7_init_173 dX7_init_175 dX7_init_177 (Nat.le_of_ble_eq_true rfl) (Nat.le_of_ble_eq_true rfl) ?_
  clear hW hz fo fA
  intro h H locs hW hz fo fA
  have fo : h a = some (.inr (7, [.int 0, .int 0, .int 0, .int 0, .int 0, .int 0, .ref (a + 1), .ref (a + 2), .ref (a + 3), .ref (a + 4), .ref (a + 5), .ref (a + 6), .ref (a + 7), .ref (a + 8), .ref (a + 9), .ref (a + 10), .ref (a + 11), .ref (a + 12), .ref (a + 13), .ref (a + 14), .ref (a + 15), .ref (a + 16), .ref (a + 17), .ref (a + 18), .int 0, .ref (a + 19), .ref (a + 20), .ref (a + 21), .ref (a + 22), .null, .int 0, .null, .null, .null, .int 0, .int 0])) := fo
  refine mm_stepI hC hin2 22 29 40 hW hz fo fA hla rfl (by decide) (by decide) wd_470 rfl rfl (fun _ => rfl) (fun _ => rfl) (Nat.le_of_ble_eq_true rfl) rfl dX7_init_180 dX7_init_181 dX7_init_183 dX7_init_185 (Nat.le_of_ble_eq_true rfl) (Nat.le_of_ble_eq_true rfl) ?_
  clear hW hz fo fA
  intro h H locs hW hz fo fA
  have fo : h a = some (.inr (7, [.int 0, .int 0, .int 0, .int 0, .int 0, .int 0, .ref (a + 1), .ref (a + 2), .ref (a + 3), .ref (a + 4), .ref (a + 5), .ref (a + 6), .ref (a + 7), .ref (a + 8), .ref (a + 9), .ref (a + 10), .ref (a + 11), .ref (a + 12), .ref (a + 13), .ref (a + 14), .ref (a + 15), .ref (a + 16), .ref (a + 17), .ref (a + 18), .int 0, .ref (a + 19), .ref (a + 20), .ref (a + 21), .ref (a + 22), .ref (a + 23), .int 0, .null, .null, .null, .int 0, .int 0])) := fo
  refine mm_stepI hC hin2 23 31 100 hW hz fo fA hla rfl (by decide) (by decide) wd_472 rfl rfl (fun _ => rfl) (fun _ => rfl) (Nat.le_of_ble_eq_true rfl) rfl dX7_init_188 dX7_init_189 dX7_init_191 dX7_init_193 (Nat.le_of_ble_eq_true rfl) (Nat.le_of_ble_eq_true rfl) ?_
  clear hW hz fo fA
  intro h H locs hW hz fo fA
  have fo : h a = some (.inr (7, [.int 0, .int 0, .int 0, .int 0, .int 0, .int 0, .ref (a + 1), .ref (a + 2), .ref (a + 3), .ref (a + 4), .ref (a + 5), .ref (a + 6), .ref (a + 7), .ref (a + 8), .ref (a + 9), .ref (a + 10), .ref (a + 11), .ref (a + 12), .ref (a + 13), .ref (a + 14), .ref (a + 15), .ref (a + 16), .ref (a + 17), .ref (a + 18), .int 0, .ref (a + 19), .ref (a + 20), .ref (a + 21), .ref (a + 22), .ref (a + 23), .int 0, .ref (a + 24), .null, .null, .int 0, .int 0])) := fo
  refine mm_stepI hC hin2 24 32 100 hW hz fo fA hla rfl (by decide) (by decide) wd_473 rfl rfl (fun _ => rfl) (fun _ => rfl) (Nat.le_of_ble_eq_true rfl) rfl dX7_init_196 dX7_init_197 dX7_init_199 dX7_init_201 (Nat.le_of_ble_eq_true rfl) (Nat.le_of_ble_eq_true rfl) ?_
  clear hW hz fo fA
  intro h H locs hW hz fo fA
  have fo : h a = some (.inr (7, [.int 0, .int 0, .int 0, .int 0, .int 0, .int 0, .ref (a + 1), .ref (a + 2), .ref (a + 3), .ref (a + 4), .ref (a + 5), .ref (a + 6), .ref (a + 7), .ref (a + 8), .ref (a + 9), .ref (a + 10), .ref (a + 11), .ref (a + 12), .ref (a + 13), .ref (a + 14), .ref (a + 15), .ref (a + 16), .ref (a + 17), .ref (a + 18), .int 0, .ref (a + 19), .ref (a + 20), .ref (a + 21), .ref (a + 22), .ref (a + 23), .int 0, .ref (a + 24), .ref (a + 25), .null, .int 0, .int 0])) := fo
  refine mm_stepI hC hin2 25 33 100 hW hz fo fA hla rfl (by decide) (by decide) wd_474 rfl rfl (fun _ => rfl) (fun _ => rfl) (Nat.le_of_ble_eq_true rfl) rfl dX7_init_204 dX7_init_205 dX7_init_207 dX7_init_209 (Nat.le_of_ble_eq_true rfl) (Nat.le_of_ble_eq_true rfl) ?_
  clear hW hz fo fA
  intro h H locs hW hz fo fA
  have fo : h a = some (.inr (7, [.int 0, .int 0, .int 0, .int 0, .int 0, .int 0, .ref (a + 1), .ref (a + 2), .ref (a + 3), .ref (a + 4), .ref (a + 5), .ref (a + 6), .ref (a + 7), .ref (a + 8), .ref (a + 9), .ref (a + 10), .ref (a + 11), .ref (a + 12), .ref (a + 13), .ref (a + 14), .ref (a + 15), .ref (a + 16), .ref (a + 17), .ref (a + 18), .int 0, .ref (a + 19), .ref (a + 20), .ref (a + 21), .ref (a + 22), .ref (a + 23), .int 0, .ref (a + 24), .ref (a + 25), .ref (a + 26), .int 0, .int 0])) := fo
  refine W.widen (k := 26) (n := 1516) (Nat.le_refl _) (Nat.le_refl _) ?_
  refine lv_aload_n hx hb dX7_init_212 rfl hla ?_
  refine lv_iload_n hx hb dX7_init_213 rfl (lv_at hl 1 rfl) ?_
  refine lv_iconst (v := 1) hx hb dX7_init_214 (by decide) ?_
  refine lv_bipush (v := 40) hx hb dX7_init_215 (by decide) ?_
  refine db_cSO (As := [.int t, .int 1, .int 40]) (rest := [.ref a]) hC hW rfl (n_X7_within l Γ _ _ t 1 40 (by decide) (by decide)) (cw_X7_within (Nat.le_of_ble_eq_true rfl) (Nat.le_of_ble_eq_true rfl)) wd_438 wd_439 rfl hl.1 rfl (Nat.le_of_ble_eq_true rfl) dX7_init_217 ⟨Nat.le_of_ble_eq_true rfl, Nat.le_of_ble_eq_true rfl⟩ ?_
  clear hW
  intro v9 h9 H locs hP9 hW
  obtain ⟨rfl, e9, -⟩ := hP9
  rw [e9] at hW
  refine W.eq (g2 := F0 m 220 ls [.int (nI n), .ref a]) (by rw [e1]; rfl) ?_
  refine mm_putA hC hin2 hW fo fA 0 (by decide) wd_441 rfl rfl rfl rfl (Nat.le_of_ble_eq_true rfl) dX7_init_220 ?_
  clear hW fo fA e9
  intro h H locs hW _ fo fA
  have fo : h a = some (.inr (7, [.int (nI n), .int 0, .int 0, .int 0, .int 0, .int 0, .ref (a + 1), .ref (a + 2), .ref (a + 3), .ref (a + 4), .ref (a + 5), .ref (a + 6), .ref (a + 7), .ref (a + 8), .ref (a + 9), .ref (a + 10), .ref (a + 11), .ref (a + 12), .ref (a + 13), .ref (a + 14), .ref (a + 15), .ref (a + 16), .ref (a + 17), .ref (a + 18), .int 0, .ref (a + 19), .ref (a + 20), .ref (a + 21), .ref (a + 22), .ref (a + 23), .int 0, .ref (a + 24), .ref (a + 25), .ref (a + 26), .int 0, .int 0])) := fo
  refine W.widen (k := 26) (n := 1516) (Nat.le_refl _) (Nat.le_refl _) ?_
  refine lv_aload_n hx hb dX7_init_223 rfl hla ?_
  refine lv_iload_n hx hb dX7_init_224 rfl (lv_at hl 2 rfl) ?_
  refine lv_iconst (v := 0) hx hb dX7_init_225 (by decide) ?_
  refine lv_bipush (v := 16) hx hb dX7_init_226 (by decide) ?_
  refine db_cSO (As := [.int lk, .int 0, .int 16]) (rest := [.ref a]) hC hW rfl (n_X7_within l Γ _ _ lk 0 16 (by decide) (by decide)) (cw_X7_within (Nat.le_of_ble_eq_true rfl) (Nat.le_of_ble_eq_true rfl)) wd_438 wd_439 rfl hl.1 rfl (Nat.le_of_ble_eq_true rfl) dX7_init_228 ⟨Nat.le_of_ble_eq_true rfl, Nat.le_of_ble_eq_true rfl⟩ ?_
  clear hW
  intro v9 h9 H locs hP9 hW
  obtain ⟨rfl, e9, -⟩ := hP9
  rw [e9] at hW
  refine W.eq (g2 := F0 m 231 ls [.int (nI nl), .ref a]) (by rw [e2]; rfl) ?_
  refine mm_putA hC hin2 hW fo fA 1 (by decide) wd_442 rfl rfl rfl rfl (Nat.le_of_ble_eq_true rfl) dX7_init_231 ?_
  clear hW fo fA e9
  intro h H locs hW _ fo fA
  have fo : h a = some (.inr (7, [.int (nI n), .int (nI nl), .int 0, .int 0, .int 0, .int 0, .ref (a + 1), .ref (a + 2), .ref (a + 3), .ref (a + 4), .ref (a + 5), .ref (a + 6), .ref (a + 7), .ref (a + 8), .ref (a + 9), .ref (a + 10), .ref (a + 11), .ref (a + 12), .ref (a + 13), .ref (a + 14), .ref (a + 15), .ref (a + 16), .ref (a + 17), .ref (a + 18), .int 0, .ref (a + 19), .ref (a + 20), .ref (a + 21), .ref (a + 22), .ref (a + 23), .int 0, .ref (a + 24), .ref (a + 25), .ref (a + 26), .int 0, .int 0])) := fo
  refine W.widen (k := 26) (n := 1516) (Nat.le_refl _) (Nat.le_refl _) ?_
  refine lv_aload_n hx hb dX7_init_234 rfl hla ?_
  refine lv_iload_n hx hb dX7_init_235 rfl (lv_at hl 3 rfl) ?_
  refine lv_iconst (v := 0) hx hb dX7_init_236 (by decide) ?_
  refine lv_bipush (v := 120) hx hb dX7_init_237 (by decide) ?_
  refine db_cSO (As := [.int se, .int 0, .int 120]) (rest := [.ref a]) hC hW rfl (n_X7_within l Γ _ _ se 0 120 (by decide) (by decide)) (cw_X7_within (Nat.le_of_ble_eq_true rfl) (Nat.le_of_ble_eq_true rfl)) wd_438 wd_439 rfl hl.1 rfl (Nat.le_of_ble_eq_true rfl) dX7_init_239 ⟨Nat.le_of_ble_eq_true rfl, Nat.le_of_ble_eq_true rfl⟩ ?_
  clear hW
  intro v9 h9 H locs hP9 hW
  obtain ⟨rfl, e9, -⟩ := hP9
  rw [e9] at hW
  refine W.eq (g2 := F0 m 242 ls [.int (nI ns), .ref a]) (by rw [e3]; rfl) ?_
  refine mm_putA hC hin2 hW fo fA 2 (by decide) wd_443 rfl rfl rfl rfl (Nat.le_of_ble_eq_true rfl) dX7_init_242 ?_
  clear hW fo fA e9
  intro h H locs hW _ fo fA
  have fo : h a = some (.inr (7, [.int (nI n), .int (nI nl), .int (nI ns), .int 0, .int 0, .int 0, .ref (a + 1), .ref (a + 2), .ref (a + 3), .ref (a + 4), .ref (a + 5), .ref (a + 6), .ref (a + 7), .ref (a + 8), .ref (a + 9), .ref (a + 10), .ref (a + 11), .ref (a + 12), .ref (a + 13), .ref (a + 14), .ref (a + 15), .ref (a + 16), .ref (a + 17), .ref (a + 18), .int 0, .ref (a + 19), .ref (a + 20), .ref (a + 21), .ref (a + 22), .ref (a + 23), .int 0, .ref (a + 24), .ref (a + 25), .ref (a + 26), .int 0, .int 0])) := fo
  refine W.widen (k := 26) (n := 1516) (Nat.le_refl _) (Nat.le_refl _) ?_
  refine lv_aload_n hx hb dX7_init_245 rfl hla ?_
  refine lv_iload hx hb dX7_init_246 (lv_at hl 4 rfl) ?_
  refine lv_iconst (v := 0) hx hb dX7_init_248 (by decide) ?_
  refine lv_bipush (v := 100) hx hb dX7_init_249 (by decide) ?_
  refine db_cSO (As := [.int lg, .int 0, .int 100]) (rest := [.ref a]) hC hW rfl (n_X7_within l Γ _ _ lg 0 100 (by decide) (by decide)) (cw_X7_within (Nat.le_of_ble_eq_true rfl) (Nat.le_of_ble_eq_true rfl)) wd_438 wd_439 rfl hl.1 rfl (Nat.le_of_ble_eq_true rfl) dX7_init_251 ⟨Nat.le_of_ble_eq_true rfl, Nat.le_of_ble_eq_true rfl⟩ ?_
  clear hW
  intro v9 h9 H locs hP9 hW
  obtain ⟨rfl, e9, -⟩ := hP9
  rw [e9] at hW
  refine W.eq (g2 := F0 m 254 ls [.int (nI ng), .ref a]) (by rw [e4]; rfl) ?_
  refine mm_putA hC hin2 hW fo fA 3 (by decide) wd_444 rfl rfl rfl rfl (Nat.le_of_ble_eq_true rfl) dX7_init_254 ?_
  clear hW fo fA e9
  intro h H locs hW _ fo fA
  have fo : h a = some (.inr (7, [.int (nI n), .int (nI nl), .int (nI ns), .int (nI ng), .int 0, .int 0, .ref (a + 1), .ref (a + 2), .ref (a + 3), .ref (a + 4), .ref (a + 5), .ref (a + 6), .ref (a + 7), .ref (a + 8), .ref (a + 9), .ref (a + 10), .ref (a + 11), .ref (a + 12), .ref (a + 13), .ref (a + 14), .ref (a + 15), .ref (a + 16), .ref (a + 17), .ref (a + 18), .int 0, .ref (a + 19), .ref (a + 20), .ref (a + 21), .ref (a + 22), .ref (a + 23), .int 0, .ref (a + 24), .ref (a + 25), .ref (a + 26), .int 0, .int 0])) := fo
  refine W.widen (k := 26) (n := 1516) (Nat.le_refl _) (Nat.le_refl _) ?_
  refine lv_aload_n hx hb dX7_init_257 rfl hla ?_
  refine lv_iload hx hb dX7_init_258 (lv_at hl 5 rfl) ?_
  refine lv_iconst (v := 1) hx hb dX7_init_260 (by decide) ?_
  refine lv_sipush (v := 20000) hx hb dX7_init_261 (by decide) ?_
  refine db_cSO (As := [.int la0, .int 1, .int 20000]) (rest := [.ref a]) hC hW rfl (n_X7_within l Γ _ _ la0 1 20000 (by decide) (by decide)) (cw_X7_within (Nat.le_of_ble_eq_true rfl) (Nat.le_of_ble_eq_true rfl)) wd_438 wd_439 rfl hl.1 rfl (Nat.le_of_ble_eq_true rfl) dX7_init_264 ⟨Nat.le_of_ble_eq_true rfl, Nat.le_of_ble_eq_true rfl⟩ ?_
  clear hW
  intro v9 h9 H locs hP9 hW
  obtain ⟨rfl, e9, -⟩ := hP9
  rw [e9] at hW
  refine W.eq (g2 := F0 m 267 ls [.int (nI la), .ref a]) (by rw [e5]; rfl) ?_
  refine mm_putA hC hin2 hW fo fA 4 (by decide) wd_445 rfl rfl rfl rfl (Nat.le_of_ble_eq_true rfl) dX7_init_267 ?_
  clear hW fo fA e9
  intro h H locs hW _ fo fA
  have fo : h a = some (.inr (7, [.int (nI n), .int (nI nl), .int (nI ns), .int (nI ng), .int (nI la), .int 0, .ref (a + 1), .ref (a + 2), .ref (a + 3), .ref (a + 4), .ref (a + 5), .ref (a + 6), .ref (a + 7), .ref (a + 8), .ref (a + 9), .ref (a + 10), .ref (a + 11), .ref (a + 12), .ref (a + 13), .ref (a + 14), .ref (a + 15), .ref (a + 16), .ref (a + 17), .ref (a + 18), .int 0, .ref (a + 19), .ref (a + 20), .ref (a + 21), .ref (a + 22), .ref (a + 23), .int 0, .ref (a + 24), .ref (a + 25), .ref (a + 26), .int 0, .int 0])) := fo
  refine W.widen (k := 26) (n := 1516) (Nat.le_refl _) (Nat.le_refl _) ?_
  refine lv_iconst (v := 0) hx hb dX7_init_270 (by decide) ?_
  refine lv_istore (lv' := [(6, .int 0), (0, .ref a), (1, .int t), (2, .int lk), (3, .int se), (4, .int lg), (5, .int la0)]) hx hb dX7_init_271 hl (by decide) rfl (fun ls hl => ?_)
  have K273 : ∀ (q : Nat) (j : Nat) (hq : 16 + 1 - j ≤ q) (hj0 : j ≤ 16) (h : db_Mem) (g : Nat → Int32) (fb1 : h a = some (.inr (7, [.int (nI n), .int (nI nl), .int (nI ns), .int (nI ng), .int (nI la), .int 0, .ref (a + 1), .ref (a + 2), .ref (a + 3), .ref (a + 4), .ref (a + 5), .ref (a + 6), .ref (a + 7), .ref (a + 8), .ref (a + 9), .ref (a + 10), .ref (a + 11), .ref (a + 12), .ref (a + 13), .ref (a + 14), .ref (a + 15), .ref (a + 16), .ref (a + 17), .ref (a + 18), .int 0, .ref (a + 19), .ref (a + 20), .ref (a + 21), .ref (a + 22), .ref (a + 23), .int 0, .ref (a + 24), .ref (a + 25), .ref (a + 26), .int 0, .int 0]))) (fb2 : h (a + 18) = some (.inl (Γ.2 0, 16, .inl g))) (hgv : ∀ i, i < j → g i = -1) (fA : ∀ i, i < 26 → i ≠ 17 → h (a + 1 + i) = some (mm_ar Γ i)) (H : Heap) (locs : List Loc) (hW : db_W Γ A s.heap h H locs) (ls : Array Slot) (hl : lv_has ls 7 [(0, .ref a), (6, .int (nI j))]), W p l e (db_rc 2 60 26 1516) s m args below meth c H locs 26 1516 Q (F0 m 273 ls []) := by
    clear hW hl fo fA hla
    intro q
    induction q with
    | zero =>
      intro j hq hj0
      exact absurd hq (by omega)
    | succ q ih =>
      intro j hq hj0 h g fb1 fb2 hgv fA H locs hW ls hl
      refine lv_iload hx hb dX7_init_273 (lv_at hl 1 rfl) ?_
      refine lv_bipush (v := 16) hx hb dX7_init_275 (by decide) ?_
      refine lv_icmp_ge (tgt := 294) hx hb dX7_init_277 (by decide) (fun c9 => ?_) (fun c9 => ?_)
      · have hj : j = 16 := by
          rcases Nat.lt_or_ge j 16 with q9 | q9
          · exact absurd (show nI 16 ≤ nI j from c9) (nI_ge q9 (by decide))
          · omega
        have hW := hW.iext fb2 (g := fun _ => -1) (fun i hi => hgv i (by omega))
        refine W.mono hQ ?_
        exact W.vret hx hb hr (fun t9 ht9 _ => hret _ _ _ none hW ⟨rfl, mm_L0 a, rfl, mm_R0 ((db_sn (by omega)).trans fb1) (fun i hi h17 => (db_sn (by omega)).trans (fA i hi h17)) db_ss⟩ t9 ht9) hW.2.2.1.2.2 dX7_init_294 hlocks
      · have hj : j < 16 := by
          rcases Nat.lt_or_ge j 16 with q9 | q9
          · exact q9
          · exact absurd (show (16 : Int32) ≤ nI j from nI_le q9 (by omega)) c9
        refine lv_aload_n hx hb dX7_init_280 rfl (lv_at hl 0 rfl) ?_
        refine db_getR hx hb hts hown hK hW.1 fb1 db_c7 23 (by decide) (hts _ wd_464) rfl dX7_init_281 ?_
        refine lv_iload hx hb dX7_init_284 (lv_at hl 1 rfl) ?_
        refine lv_iconst (v := -1) hx hb dX7_init_286 (by decide) ?_
        refine db_istR hx hb hK hW fb2 rfl hj (by decide) dX7_init_287 (fun H locs hW => ?_)
        refine lv_iinc (v := nI (j + 1)) (lv' := [(6, .int (nI (j + 1))), (0, .ref a)]) hx hb dX7_init_288 hl (k := 1) rfl (nI_1 _) (by decide) rfl (fun ls hl => ?_)
        refine lv_goto (tgt := 273) hx hb dX7_init_291 (by decide) ?_
        refine ih (j + 1) (by omega) hj _ _ ((db_sn (by omega)).trans fb1) db_ss ?_ (fun i hi h17 => (db_sn (by omega)).trans (fA i hi h17)) _ _ hW _ (lv_sub hl [1, 0] rfl)
        intro i hi
        by_cases q9 : i = j
        · subst q9; simp [upd]
        · simp [upd, q9]; exact hgv i (by omega)
  exact K273 _ 0 (Nat.le_refl _) (Nat.zero_le _) h _ fo (fA 17 (by decide)) (fun i hi => absurd hi (by omega)) (fun i hi _ => fA i hi) _ _ hW _ (lv_sub hl [1, 0] rfl)
