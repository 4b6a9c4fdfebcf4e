theorem db_nz {v : Int32} (h : v = 0 ∨ v = 1) : narrow .boolean (.int v) = .int v := by rcases h with rfl | rfl <;> rfl
theorem db_fz {v : Int32} (h : v = 0 ∨ v = 1) : fits .boolean (.int v) = true := by rcases h with rfl | rfl <;> rfl
theorem db_ix {x : Int32} {n : Nat} (hn : n < 2 ^ 31) (h0 : ¬ x < 0) (h1 : ¬ nI n ≤ x) : ∃ j : Nat, j < n ∧ x = nI j := by
  rcases pk_ix x hn with h | h | h
  · exact absurd h h0
  · exact absurd h h1
  · exact h
theorem db_nIc {j n : Nat} (h : j < n) (hn : n < 2 ^ 31) : (nI j).toNatClampNeg = j := nI_clamp (by omega)
theorem db_case {x : Int32} {n : Nat} (hn : n < 2 ^ 31) (h0 : ¬ x.toInt < 0) (h1 : ¬ (n : Int) < x.toInt) : ∃ j : Nat, j ≤ n ∧ x = nI j := by
  obtain ⟨j, hj, e⟩ := nI_of (x := x) (fun h => h0 (by rw [Int32.lt_iff_toInt_lt] at h; simpa using h))
  refine ⟨j, ?_, e⟩
  rw [e, nI_toInt hj] at h1
  omega
theorem db_out11 {x : Int32} (h0 : ¬ x = 0) (h1 : ¬ x = 1) (h2 : ¬ x = 2) (h3 : ¬ x = 3) (h4 : ¬ x = 4) (h5 : ¬ x = 5) (h6 : ¬ x = 6) (h7 : ¬ x = 7) (h8 : ¬ x = 8) (h9 : ¬ x = 9) (h10 : ¬ x = 10) : x.toInt < 0 ∨ 10 < x.toInt := by
  by_cases a : x.toInt < 0
  · exact Or.inl a
  by_cases b : 10 < x.toInt
  · exact Or.inr b
  exfalso
  obtain ⟨j, hj, e⟩ := db_case (n := 10) (by decide) a b
  have hj : j = 0 ∨ j = 1 ∨ j = 2 ∨ j = 3 ∨ j = 4 ∨ j = 5 ∨ j = 6 ∨ j = 7 ∨ j = 8 ∨ j = 9 ∨ j = 10 := by omega
  rcases hj with rfl | rfl | rfl | rfl | rfl | rfl | rfl | rfl | rfl | rfl | rfl
  · exact h0 (e.trans (by decide +kernel))
  · exact h1 (e.trans (by decide +kernel))
  · exact h2 (e.trans (by decide +kernel))
  · exact h3 (e.trans (by decide +kernel))
  · exact h4 (e.trans (by decide +kernel))
  · exact h5 (e.trans (by decide +kernel))
  · exact h6 (e.trans (by decide +kernel))
  · exact h7 (e.trans (by decide +kernel))
  · exact h8 (e.trans (by decide +kernel))
  · exact h9 (e.trans (by decide +kernel))
  · exact h10 (e.trans (by decide +kernel))
theorem db_out7 {x : Int32} (h0 : ¬ x = 0) (h1 : ¬ x = 1) (h2 : ¬ x = 2) (h3 : ¬ x = 3) (h4 : ¬ x = 4) (h5 : ¬ x = 5) (h6 : ¬ x = 6) : x.toInt < 0 ∨ 6 < x.toInt := by
  by_cases a : x.toInt < 0
  · exact Or.inl a
  by_cases b : 6 < x.toInt
  · exact Or.inr b
  exfalso
  obtain ⟨j, hj, e⟩ := db_case (n := 6) (by decide) a b
  have hj : j = 0 ∨ j = 1 ∨ j = 2 ∨ j = 3 ∨ j = 4 ∨ j = 5 ∨ j = 6 := by omega
  rcases hj with rfl | rfl | rfl | rfl | rfl | rfl | rfl
  · exact h0 (e.trans (by decide +kernel))
  · exact h1 (e.trans (by decide +kernel))
  · exact h2 (e.trans (by decide +kernel))
  · exact h3 (e.trans (by decide +kernel))
  · exact h4 (e.trans (by decide +kernel))
  · exact h5 (e.trans (by decide +kernel))
  · exact h6 (e.trans (by decide +kernel))
theorem wm_max : Cond.code Lib.Math.max.name Lib.Math.max.code 2 (some .int) ∈ db_gw := List.mem_filter.mpr ⟨List.mem_of_getElem? (i := 78) (by decide +kernel), by decide +kernel⟩
theorem db_mmax {p : Program} {l : Launch} {e : Env} {R : Room} {s : State} {m : MethodId} {args : Array Value} {below : List Frame} {meth : Method} {c : Code} {H : Heap} {locs : List Loc} {Q : State → Prop} {cc : ByteArray} {pc nL index : Nat} {ls : Array Slot} {rest : List Value} {Γ : db_G} {own : String} {ret0 : Option FieldType} {x y : Int32}
    (hC : db_Cx p s m args meth c Γ own cc nL ret0) (hsz : ls.size = nL) (hl : Cond.methodLink own index Lib.Math.max.name ∈ db_gw) (hf : 1 ≤ R.frames) (hlo : (rest.map fun v => v.category).sum + 13 ≤ R.locals) (hdg : decode cc pc = .ok (.invokestatic index, 3))
    (kk : W p l e R s m args below meth c H locs 0 0 Q (F0 m (pc + 3) ls (.int (if x < y then y else x) :: rest))) : W p l e R s m args below meth c H locs 0 0 Q (F0 m pc ls (.int y :: .int x :: rest)) := by
  obtain ⟨hx, hb, hml, -, -, hown, hts, hK⟩ := hC
  exact va_mmax hx hb (hml.trans hsz.symm) hown (hts _ hl) (hts _ wd_26) (hts _ wd_2) (hts _ wm_max) hf hlo (Nat.zero_le _) (Nat.zero_le _) hdg kk
theorem wm_min : Cond.code Lib.Math.min.name Lib.Math.min.code 2 (some .int) ∈ db_gw := List.mem_filter.mpr ⟨List.mem_of_getElem? (i := 75) (by decide +kernel), by decide +kernel⟩
theorem db_mmin {p : Program} {l : Launch} {e : Env} {R : Room} {s : State} {m : MethodId} {args : Array Value} {below : List Frame} {meth : Method} {c : Code} {H : Heap} {locs : List Loc} {Q : State → Prop} {cc : ByteArray} {pc nL index : Nat} {ls : Array Slot} {rest : List Value} {Γ : db_G} {own : String} {ret0 : Option FieldType} {x y : Int32}
    (hC : db_Cx p s m args meth c Γ own cc nL ret0) (hsz : ls.size = nL) (hl : Cond.methodLink own index Lib.Math.min.name ∈ db_gw) (hf : 1 ≤ R.frames) (hlo : (rest.map fun v => v.category).sum + 13 ≤ R.locals) (hdg : decode cc pc = .ok (.invokestatic index, 3))
    (kk : W p l e R s m args below meth c H locs 0 0 Q (F0 m (pc + 3) ls (.int (if y < x then y else x) :: rest))) : W p l e R s m args below meth c H locs 0 0 Q (F0 m pc ls (.int y :: .int x :: rest)) := by
  obtain ⟨hx, hb, hml, -, -, hown, hts, hK⟩ := hC
  exact va_mmin hx hb (hml.trans hsz.symm) hown (hts _ hl) (hts _ wd_23) (hts _ wd_2) (hts _ wm_min) hf hlo (Nat.zero_le _) (Nat.zero_le _) hdg kk
theorem cw_X6_init {R rm : Room} (h1 : rm.frames + 1 ≤ R.frames) (h2 : 8 + (7 + 11) + rm.locals ≤ R.locals) : db_cw R yX6_init cX6_init 7 none rm 5 := ⟨wd_15, wd_1, by decide +kernel, h1, h2⟩
theorem cw_X6_nearest {R rm : Room} (h1 : rm.frames + 1 ≤ R.frames) (h2 : 8 + (3 + 11) + rm.locals ≤ R.locals) : db_cw R yX6_nearest cX6_nearest 3 (some .int) rm 3 := ⟨wd_21, wd_1, by decide +kernel, h1, h2⟩
theorem cw_X5_init {R rm : Room} (h1 : rm.frames + 1 ≤ R.frames) (h2 : 8 + (1 + 11) + rm.locals ≤ R.locals) : db_cw R yX5_init cX5_init 1 none rm 0 := ⟨wd_33, wd_3, by decide +kernel, h1, h2⟩
theorem cw_X0_init {R rm : Room} (h1 : rm.frames + 1 ≤ R.frames) (h2 : 8 + (1 + 11) + rm.locals ≤ R.locals) : db_cw R yX0_init cX0_init 1 none rm 0 := ⟨wd_39, wd_4, by decide +kernel, h1, h2⟩
theorem cw_X4_init {R rm : Room} (h1 : rm.frames + 1 ≤ R.frames) (h2 : 8 + (2 + 11) + rm.locals ≤ R.locals) : db_cw R yX4_init cX4_init 2 none rm 1 := ⟨wd_126, wd_6, by decide +kernel, h1, h2⟩
theorem cw_X1_init {R rm : Room} (h1 : rm.frames + 1 ≤ R.frames) (h2 : 8 + (2 + 11) + rm.locals ≤ R.locals) : db_cw R yX1_init cX1_init 2 none rm 1 := ⟨wd_144, wd_7, by decide +kernel, h1, h2⟩
theorem cw_X2_init {R rm : Room} (h1 : rm.frames + 1 ≤ R.frames) (h2 : 8 + (1 + 11) + rm.locals ≤ R.locals) : db_cw R yX2_init cX2_init 1 none rm 0 := ⟨wd_163, wd_8, by decide +kernel, h1, h2⟩
theorem cw_X6_addTask {R rm : Room} (h1 : rm.frames + 1 ≤ R.frames) (h2 : 8 + (6 + 11) + rm.locals ≤ R.locals) : db_cw R yX6_addTask cX6_addTask 6 (some .int) rm 3 := ⟨wd_200, wd_1, by decide +kernel, h1, h2⟩
theorem cw_X5_enter {R rm : Room} (h1 : rm.frames + 1 ≤ R.frames) (h2 : 8 + (5 + 11) + rm.locals ≤ R.locals) : db_cw R yX5_enter cX5_enter 5 none rm 4 := ⟨wd_204, wd_3, by decide +kernel, h1, h2⟩
theorem cw_X6_addSection {R rm : Room} (h1 : rm.frames + 1 ≤ R.frames) (h2 : 8 + (5 + 11) + rm.locals ≤ R.locals) : db_cw R yX6_addSection cX6_addSection 5 (some .boolean) rm 4 := ⟨wd_208, wd_1, by decide +kernel, h1, h2⟩
theorem cw_X6_isLive {R rm : Room} (h1 : rm.frames + 1 ≤ R.frames) (h2 : 8 + (2 + 11) + rm.locals ≤ R.locals) : db_cw R yX6_isLive cX6_isLive 2 (some .boolean) rm 1 := ⟨wd_212, wd_1, by decide +kernel, h1, h2⟩
theorem cw_X6_isLock {R rm : Room} (h1 : rm.frames + 1 ≤ R.frames) (h2 : 8 + (2 + 11) + rm.locals ≤ R.locals) : db_cw R yX6_isLock cX6_isLock 2 (some .boolean) rm 1 := ⟨wd_216, wd_1, by decide +kernel, h1, h2⟩
theorem cw_X3_init {R rm : Room} (h1 : rm.frames + 1 ≤ R.frames) (h2 : 8 + (5 + 11) + rm.locals ≤ R.locals) : db_cw R yX3_init cX3_init 5 none rm 4 := ⟨wd_221, wd_10, by decide +kernel, h1, h2⟩
theorem cw_X4_insert {R rm : Room} (h1 : rm.frames + 1 ≤ R.frames) (h2 : 8 + (3 + 11) + rm.locals ≤ R.locals) : db_cw R yX4_insert cX4_insert 3 (some .boolean) rm 1 := ⟨wd_247, wd_6, by decide +kernel, h1, h2⟩
theorem cw_X4_clashes {R rm : Room} (h1 : rm.frames + 1 ≤ R.frames) (h2 : 8 + (3 + 11) + rm.locals ≤ R.locals) : db_cw R yX4_clashes cX4_clashes 3 (some .boolean) rm 1 := ⟨wd_251, wd_6, by decide +kernel, h1, h2⟩
theorem cw_X3_clashesWith {R rm : Room} (h1 : rm.frames + 1 ≤ R.frames) (h2 : 8 + (4 + 11) + rm.locals ≤ R.locals) : db_cw R yX3_clashesWith cX3_clashesWith 4 (some .boolean) rm 1 := ⟨wd_255, wd_10, by decide +kernel, h1, h2⟩
theorem cw_X3_covers {R rm : Room} (h1 : rm.frames + 1 ≤ R.frames) (h2 : 8 + (2 + 11) + rm.locals ≤ R.locals) : db_cw R yX3_covers cX3_covers 2 (some .boolean) rm 1 := ⟨wd_259, wd_10, by decide +kernel, h1, h2⟩
theorem cw_X3_goesBefore {R rm : Room} (h1 : rm.frames + 1 ≤ R.frames) (h2 : 8 + (2 + 11) + rm.locals ≤ R.locals) : db_cw R yX3_goesBefore cX3_goesBefore 2 (some .boolean) rm 1 := ⟨wd_263, wd_10, by decide +kernel, h1, h2⟩
theorem cw_X6_removeTask {R rm : Room} (h1 : rm.frames + 1 ≤ R.frames) (h2 : 8 + (2 + 11) + rm.locals ≤ R.locals) : db_cw R yX6_removeTask cX6_removeTask 2 (some .boolean) rm 1 := ⟨wd_267, wd_1, by decide +kernel, h1, h2⟩
theorem cw_X6_dropJob {R rm : Room} (h1 : rm.frames + 1 ≤ R.frames) (h2 : 8 + (3 + 11) + rm.locals ≤ R.locals) : db_cw R yX6_dropJob cX6_dropJob 3 none rm 1 := ⟨wd_271, wd_1, by decide +kernel, h1, h2⟩
theorem cw_X6_letGo {R rm : Room} (h1 : rm.frames + 1 ≤ R.frames) (h2 : 8 + (3 + 11) + rm.locals ≤ R.locals) : db_cw R yX6_letGo cX6_letGo 3 none rm 1 := ⟨wd_275, wd_1, by decide +kernel, h1, h2⟩
theorem cw_X6_inheritDeadlines {R rm : Room} (h1 : rm.frames + 1 ≤ R.frames) (h2 : 8 + (6 + 11) + rm.locals ≤ R.locals) : db_cw R yX6_inheritDeadlines cX6_inheritDeadlines 6 none rm 0 := ⟨wd_279, wd_1, by decide +kernel, h1, h2⟩
theorem cw_X6_holderAwaitedBy {R rm : Room} (h1 : rm.frames + 1 ≤ R.frames) (h2 : 8 + (3 + 11) + rm.locals ≤ R.locals) : db_cw R yX6_holderAwaitedBy cX6_holderAwaitedBy 3 (some .int) rm 1 := ⟨wd_283, wd_1, by decide +kernel, h1, h2⟩
theorem cw_X6_aheadOfAll {R rm : Room} (h1 : rm.frames + 1 ≤ R.frames) (h2 : 8 + (5 + 11) + rm.locals ≤ R.locals) : db_cw R yX6_aheadOfAll cX6_aheadOfAll 5 (some .int) rm 1 := ⟨wd_287, wd_1, by decide +kernel, h1, h2⟩
theorem cw_X4_removeAllOf {R rm : Room} (h1 : rm.frames + 1 ≤ R.frames) (h2 : 8 + (4 + 11) + rm.locals ≤ R.locals) : db_cw R yX4_removeAllOf cX4_removeAllOf 4 none rm 1 := ⟨wd_291, wd_6, by decide +kernel, h1, h2⟩
theorem cw_X6_admissible {R rm : Room} (h1 : rm.frames + 1 ≤ R.frames) (h2 : 8 + (4 + 11) + rm.locals ≤ R.locals) : db_cw R yX6_admissible cX6_admissible 4 (some .boolean) rm 0 := ⟨wd_295, wd_1, by decide +kernel, h1, h2⟩
theorem cw_X6_demandAt {R rm : Room} (h1 : rm.frames + 1 ≤ R.frames) (h2 : 8 + (10 + 11) + rm.locals ≤ R.locals) : db_cw R yX6_demandAt cX6_demandAt 10 (some .long) rm 1 := ⟨wd_299, wd_1, by decide +kernel, h1, h2⟩
theorem cw_X6_tick {R rm : Room} (h1 : rm.frames + 1 ≤ R.frames) (h2 : 8 + (1 + 11) + rm.locals ≤ R.locals) : db_cw R yX6_tick cX6_tick 1 (some .int) rm 0 := ⟨wd_303, wd_1, by decide +kernel, h1, h2⟩
theorem cw_X6_passTick {R rm : Room} (h1 : rm.frames + 1 ≤ R.frames) (h2 : 8 + (2 + 11) + rm.locals ≤ R.locals) : db_cw R yX6_passTick cX6_passTick 2 (some .int) rm 0 := ⟨wd_307, wd_1, by decide +kernel, h1, h2⟩
theorem cw_X6_dropLateJobs {R rm : Room} (h1 : rm.frames + 1 ≤ R.frames) (h2 : 8 + (2 + 11) + rm.locals ≤ R.locals) : db_cw R yX6_dropLateJobs cX6_dropLateJobs 2 none rm 0 := ⟨wd_311, wd_1, by decide +kernel, h1, h2⟩
theorem cw_X1_note {R rm : Room} (h1 : rm.frames + 1 ≤ R.frames) (h2 : 8 + (3 + 11) + rm.locals ≤ R.locals) : db_cw R yX1_note cX1_note 3 none rm 2 := ⟨wd_315, wd_7, by decide +kernel, h1, h2⟩
theorem cw_X6_releaseJobs {R rm : Room} (h1 : rm.frames + 1 ≤ R.frames) (h2 : 8 + (5 + 11) + rm.locals ≤ R.locals) : db_cw R yX6_releaseJobs cX6_releaseJobs 5 none rm 0 := ⟨wd_319, wd_1, by decide +kernel, h1, h2⟩
theorem cw_X5_releaseJob {R rm : Room} (h1 : rm.frames + 1 ≤ R.frames) (h2 : 8 + (1 + 11) + rm.locals ≤ R.locals) : db_cw R yX5_releaseJob cX5_releaseJob 1 none rm 0 := ⟨wd_323, wd_3, by decide +kernel, h1, h2⟩
theorem cw_X0_begin {R rm : Room} (h1 : rm.frames + 1 ≤ R.frames) (h2 : 8 + (3 + 11) + rm.locals ≤ R.locals) : db_cw R yX0_begin cX0_begin 3 none rm 2 := ⟨wd_327, wd_4, by decide +kernel, h1, h2⟩
theorem cw_X6_runOneJob {R rm : Room} (h1 : rm.frames + 1 ≤ R.frames) (h2 : 8 + (3 + 11) + rm.locals ≤ R.locals) : db_cw R yX6_runOneJob cX6_runOneJob 3 (some .int) rm 0 := ⟨wd_331, wd_1, by decide +kernel, h1, h2⟩
theorem cw_X6_takeLocks {R rm : Room} (h1 : rm.frames + 1 ≤ R.frames) (h2 : 8 + (5 + 11) + rm.locals ≤ R.locals) : db_cw R yX6_takeLocks cX6_takeLocks 5 (some .boolean) rm 1 := ⟨wd_335, wd_1, by decide +kernel, h1, h2⟩
theorem cw_X6_workOneUnit {R rm : Room} (h1 : rm.frames + 1 ≤ R.frames) (h2 : 8 + (5 + 11) + rm.locals ≤ R.locals) : db_cw R yX6_workOneUnit cX6_workOneUnit 5 none rm 1 := ⟨wd_339, wd_1, by decide +kernel, h1, h2⟩
theorem cw_X5_endJob {R rm : Room} (h1 : rm.frames + 1 ≤ R.frames) (h2 : 8 + (2 + 11) + rm.locals ≤ R.locals) : db_cw R yX5_endJob cX5_endJob 2 none rm 1 := ⟨wd_343, wd_3, by decide +kernel, h1, h2⟩
theorem cw_X6_countWaitsAndPutBys {R rm : Room} (h1 : rm.frames + 1 ≤ R.frames) (h2 : 8 + (5 + 11) + rm.locals ≤ R.locals) : db_cw R yX6_countWaitsAndPutBys cX6_countWaitsAndPutBys 5 none rm 1 := ⟨wd_348, wd_1, by decide +kernel, h1, h2⟩
theorem cw_X2_note {R rm : Room} (h1 : rm.frames + 1 ≤ R.frames) (h2 : 8 + (2 + 11) + rm.locals ≤ R.locals) : db_cw R yX2_note cX2_note 2 none rm 1 := ⟨wd_352, wd_8, by decide +kernel, h1, h2⟩
theorem cw_X6_run {R rm : Room} (h1 : rm.frames + 1 ≤ R.frames) (h2 : 8 + (4 + 11) + rm.locals ≤ R.locals) : db_cw R yX6_run cX6_run 4 (some .int) rm 1 := ⟨wd_356, wd_1, by decide +kernel, h1, h2⟩
theorem cw_X6_ran {R rm : Room} (h1 : rm.frames + 1 ≤ R.frames) (h2 : 8 + (2 + 11) + rm.locals ≤ R.locals) : db_cw R yX6_ran cX6_ran 2 (some .int) rm 1 := ⟨wd_360, wd_1, by decide +kernel, h1, h2⟩
theorem cw_X2_runnerBack {R rm : Room} (h1 : rm.frames + 1 ≤ R.frames) (h2 : 8 + (2 + 11) + rm.locals ≤ R.locals) : db_cw R yX2_runnerBack cX2_runnerBack 2 (some .int) rm 1 := ⟨wd_364, wd_8, by decide +kernel, h1, h2⟩
theorem cw_X6_remaining {R rm : Room} (h1 : rm.frames + 1 ≤ R.frames) (h2 : 8 + (2 + 11) + rm.locals ≤ R.locals) : db_cw R yX6_remaining cX6_remaining 2 (some .int) rm 1 := ⟨wd_368, wd_1, by decide +kernel, h1, h2⟩
theorem cw_X6_hasJob {R rm : Room} (h1 : rm.frames + 1 ≤ R.frames) (h2 : 8 + (2 + 11) + rm.locals ≤ R.locals) : db_cw R yX6_hasJob cX6_hasJob 2 (some .boolean) rm 1 := ⟨wd_372, wd_1, by decide +kernel, h1, h2⟩
theorem cw_X6_deadlineOf {R rm : Room} (h1 : rm.frames + 1 ≤ R.frames) (h2 : 8 + (2 + 11) + rm.locals ≤ R.locals) : db_cw R yX6_deadlineOf cX6_deadlineOf 2 (some .int) rm 1 := ⟨wd_376, wd_1, by decide +kernel, h1, h2⟩
theorem cw_X6_effective {R rm : Room} (h1 : rm.frames + 1 ≤ R.frames) (h2 : 8 + (2 + 11) + rm.locals ≤ R.locals) : db_cw R yX6_effective cX6_effective 2 (some .int) rm 1 := ⟨wd_380, wd_1, by decide +kernel, h1, h2⟩
theorem cw_X6_waitsFor {R rm : Room} (h1 : rm.frames + 1 ≤ R.frames) (h2 : 8 + (2 + 11) + rm.locals ≤ R.locals) : db_cw R yX6_waitsFor cX6_waitsFor 2 (some .int) rm 1 := ⟨wd_384, wd_1, by decide +kernel, h1, h2⟩
theorem cw_X6_owner {R rm : Room} (h1 : rm.frames + 1 ≤ R.frames) (h2 : 8 + (2 + 11) + rm.locals ≤ R.locals) : db_cw R yX6_owner cX6_owner 2 (some .int) rm 1 := ⟨wd_388, wd_1, by decide +kernel, h1, h2⟩
theorem cw_X6_waiters {R rm : Room} (h1 : rm.frames + 1 ≤ R.frames) (h2 : 8 + (7 + 11) + rm.locals ≤ R.locals) : db_cw R yX6_waiters cX6_waiters 7 (some .int) rm 1 := ⟨wd_392, wd_1, by decide +kernel, h1, h2⟩
theorem cw_X6_missCount {R rm : Room} (h1 : rm.frames + 1 ≤ R.frames) (h2 : 8 + (1 + 11) + rm.locals ≤ R.locals) : db_cw R yX6_missCount cX6_missCount 1 (some .int) rm 0 := ⟨wd_396, wd_1, by decide +kernel, h1, h2⟩
theorem cw_X6_miss {R rm : Room} (h1 : rm.frames + 1 ≤ R.frames) (h2 : 8 + (3 + 11) + rm.locals ≤ R.locals) : db_cw R yX6_miss cX6_miss 3 (some .int) rm 2 := ⟨wd_400, wd_1, by decide +kernel, h1, h2⟩
theorem cw_X1_keeps {R rm : Room} (h1 : rm.frames + 1 ≤ R.frames) (h2 : 8 + (2 + 11) + rm.locals ≤ R.locals) : db_cw R yX1_keeps cX1_keeps 2 (some .boolean) rm 1 := ⟨wd_404, wd_7, by decide +kernel, h1, h2⟩
theorem cw_X6_task {R rm : Room} (h1 : rm.frames + 1 ≤ R.frames) (h2 : 8 + (4 + 11) + rm.locals ≤ R.locals) : db_cw R yX6_task cX6_task 4 (some .int) rm 2 := ⟨wd_408, wd_1, by decide +kernel, h1, h2⟩
theorem cw_X4_sizeOf {R rm : Room} (h1 : rm.frames + 1 ≤ R.frames) (h2 : 8 + (4 + 11) + rm.locals ≤ R.locals) : db_cw R yX4_sizeOf cX4_sizeOf 4 (some .int) rm 1 := ⟨wd_412, wd_6, by decide +kernel, h1, h2⟩
theorem cw_X6_count {R rm : Room} (h1 : rm.frames + 1 ≤ R.frames) (h2 : 8 + (2 + 11) + rm.locals ≤ R.locals) : db_cw R yX6_count cX6_count 2 (some .int) rm 1 := ⟨wd_416, wd_1, by decide +kernel, h1, h2⟩
theorem cw_X6_liveTasks {R rm : Room} (h1 : rm.frames + 1 ≤ R.frames) (h2 : 8 + (6 + 11) + rm.locals ≤ R.locals) : db_cw R yX6_liveTasks cX6_liveTasks 6 (some .int) rm 0 := ⟨wd_420, wd_1, by decide +kernel, h1, h2⟩
theorem cw_X6_pendingJobs {R rm : Room} (h1 : rm.frames + 1 ≤ R.frames) (h2 : 8 + (6 + 11) + rm.locals ≤ R.locals) : db_cw R yX6_pendingJobs cX6_pendingJobs 6 (some .int) rm 0 := ⟨wd_424, wd_1, by decide +kernel, h1, h2⟩
theorem cw_X6_heldLocks {R rm : Room} (h1 : rm.frames + 1 ≤ R.frames) (h2 : 8 + (6 + 11) + rm.locals ≤ R.locals) : db_cw R yX6_heldLocks cX6_heldLocks 6 (some .int) rm 0 := ⟨wd_428, wd_1, by decide +kernel, h1, h2⟩
theorem cw_L_cell {R rm : Room} (h1 : rm.frames + 1 ≤ R.frames) (h2 : 8 + (2 + 11) + rm.locals ≤ R.locals) : db_cw R yL_cell cL_cell 2 (some .int) rm 2 := ⟨wd_431, wd_0, by decide +kernel, h1, h2⟩
theorem cw_X7_init {R rm : Room} (h1 : rm.frames + 1 ≤ R.frames) (h2 : 8 + (7 + 11) + rm.locals ≤ R.locals) : db_cw R yX7_init cX7_init 7 none rm 5 := ⟨wd_436, wd_9, by decide +kernel, h1, h2⟩
theorem cw_X7_within {R rm : Room} (h1 : rm.frames + 1 ≤ R.frames) (h2 : 8 + (3 + 11) + rm.locals ≤ R.locals) : db_cw R yX7_within cX7_within 3 (some .int) rm 3 := ⟨wd_440, wd_9, by decide +kernel, h1, h2⟩
theorem cw_X7_addTask {R rm : Room} (h1 : rm.frames + 1 ≤ R.frames) (h2 : 8 + (5 + 11) + rm.locals ≤ R.locals) : db_cw R yX7_addTask cX7_addTask 5 (some .int) rm 3 := ⟨wd_554, wd_9, by decide +kernel, h1, h2⟩
theorem cw_X7_addSection {R rm : Room} (h1 : rm.frames + 1 ≤ R.frames) (h2 : 8 + (6 + 11) + rm.locals ≤ R.locals) : db_cw R yX7_addSection cX7_addSection 6 (some .boolean) rm 4 := ⟨wd_558, wd_9, by decide +kernel, h1, h2⟩
theorem cw_X7_isLive {R rm : Room} (h1 : rm.frames + 1 ≤ R.frames) (h2 : 8 + (2 + 11) + rm.locals ≤ R.locals) : db_cw R yX7_isLive cX7_isLive 2 (some .boolean) rm 1 := ⟨wd_562, wd_9, by decide +kernel, h1, h2⟩
theorem cw_X7_isLock {R rm : Room} (h1 : rm.frames + 1 ≤ R.frames) (h2 : 8 + (2 + 11) + rm.locals ≤ R.locals) : db_cw R yX7_isLock cX7_isLock 2 (some .boolean) rm 1 := ⟨wd_566, wd_9, by decide +kernel, h1, h2⟩
theorem cw_X7_mayStand {R rm : Room} (h1 : rm.frames + 1 ≤ R.frames) (h2 : 8 + (8 + 11) + rm.locals ≤ R.locals) : db_cw R yX7_mayStand cX7_mayStand 8 (some .boolean) rm 4 := ⟨wd_570, wd_9, by decide +kernel, h1, h2⟩
theorem cw_X7_removeTask {R rm : Room} (h1 : rm.frames + 1 ≤ R.frames) (h2 : 8 + (4 + 11) + rm.locals ≤ R.locals) : db_cw R yX7_removeTask cX7_removeTask 4 (some .boolean) rm 1 := ⟨wd_574, wd_9, by decide +kernel, h1, h2⟩
theorem cw_X7_drops {R rm : Room} (h1 : rm.frames + 1 ≤ R.frames) (h2 : 8 + (3 + 11) + rm.locals ≤ R.locals) : db_cw R yX7_drops cX7_drops 3 none rm 1 := ⟨wd_578, wd_9, by decide +kernel, h1, h2⟩
theorem cw_X7_letsGo {R rm : Room} (h1 : rm.frames + 1 ≤ R.frames) (h2 : 8 + (3 + 11) + rm.locals ≤ R.locals) : db_cw R yX7_letsGo cX7_letsGo 3 none rm 1 := ⟨wd_582, wd_9, by decide +kernel, h1, h2⟩
theorem cw_X7_ahead {R rm : Room} (h1 : rm.frames + 1 ≤ R.frames) (h2 : 8 + (4 + 11) + rm.locals ≤ R.locals) : db_cw R yX7_ahead cX7_ahead 4 (some .int) rm 1 := ⟨wd_586, wd_9, by decide +kernel, h1, h2⟩
theorem cw_X7_reckons {R rm : Room} (h1 : rm.frames + 1 ≤ R.frames) (h2 : 8 + (4 + 11) + rm.locals ≤ R.locals) : db_cw R yX7_reckons cX7_reckons 4 none rm 0 := ⟨wd_590, wd_9, by decide +kernel, h1, h2⟩
theorem cw_X7_isPending {R rm : Room} (h1 : rm.frames + 1 ≤ R.frames) (h2 : 8 + (2 + 11) + rm.locals ≤ R.locals) : db_cw R yX7_isPending cX7_isPending 2 (some .boolean) rm 1 := ⟨wd_594, wd_9, by decide +kernel, h1, h2⟩
theorem cw_X7_admissible {R rm : Room} (h1 : rm.frames + 1 ≤ R.frames) (h2 : 8 + (6 + 11) + rm.locals ≤ R.locals) : db_cw R yX7_admissible cX7_admissible 6 (some .boolean) rm 0 := ⟨wd_598, wd_9, by decide +kernel, h1, h2⟩
theorem cw_X7_tick {R rm : Room} (h1 : rm.frames + 1 ≤ R.frames) (h2 : 8 + (1 + 11) + rm.locals ≤ R.locals) : db_cw R yX7_tick cX7_tick 1 (some .int) rm 0 := ⟨wd_602, wd_9, by decide +kernel, h1, h2⟩
theorem cw_X7_turns {R rm : Room} (h1 : rm.frames + 1 ≤ R.frames) (h2 : 8 + (3 + 11) + rm.locals ≤ R.locals) : db_cw R yX7_turns cX7_turns 3 (some .boolean) rm 0 := ⟨wd_606, wd_9, by decide +kernel, h1, h2⟩
theorem cw_X7_misses {R rm : Room} (h1 : rm.frames + 1 ≤ R.frames) (h2 : 8 + (3 + 11) + rm.locals ≤ R.locals) : db_cw R yX7_misses cX7_misses 3 (some .boolean) rm 0 := ⟨wd_610, wd_9, by decide +kernel, h1, h2⟩
theorem cw_X7_releases {R rm : Room} (h1 : rm.frames + 1 ≤ R.frames) (h2 : 8 + (2 + 11) + rm.locals ≤ R.locals) : db_cw R yX7_releases cX7_releases 2 none rm 0 := ⟨wd_614, wd_9, by decide +kernel, h1, h2⟩
theorem cw_X7_taken {R rm : Room} (h1 : rm.frames + 1 ≤ R.frames) (h2 : 8 + (3 + 11) + rm.locals ≤ R.locals) : db_cw R yX7_taken cX7_taken 3 (some .int) rm 0 := ⟨wd_618, wd_9, by decide +kernel, h1, h2⟩
theorem cw_X7_wanted {R rm : Room} (h1 : rm.frames + 1 ≤ R.frames) (h2 : 8 + (4 + 11) + rm.locals ≤ R.locals) : db_cw R yX7_wanted cX7_wanted 4 (some .int) rm 1 := ⟨wd_622, wd_9, by decide +kernel, h1, h2⟩
theorem cw_X7_works {R rm : Room} (h1 : rm.frames + 1 ≤ R.frames) (h2 : 8 + (4 + 11) + rm.locals ≤ R.locals) : db_cw R yX7_works cX7_works 4 none rm 1 := ⟨wd_626, wd_9, by decide +kernel, h1, h2⟩
theorem cw_X7_ending {R rm : Room} (h1 : rm.frames + 1 ≤ R.frames) (h2 : 8 + (4 + 11) + rm.locals ≤ R.locals) : db_cw R yX7_ending cX7_ending 4 (some .int) rm 1 := ⟨wd_630, wd_9, by decide +kernel, h1, h2⟩
theorem cw_X7_counts {R rm : Room} (h1 : rm.frames + 1 ≤ R.frames) (h2 : 8 + (4 + 11) + rm.locals ≤ R.locals) : db_cw R yX7_counts cX7_counts 4 none rm 1 := ⟨wd_634, wd_9, by decide +kernel, h1, h2⟩
theorem cw_X7_run {R rm : Room} (h1 : rm.frames + 1 ≤ R.frames) (h2 : 8 + (4 + 11) + rm.locals ≤ R.locals) : db_cw R yX7_run cX7_run 4 (some .int) rm 1 := ⟨wd_638, wd_9, by decide +kernel, h1, h2⟩
theorem cw_X7_ran {R rm : Room} (h1 : rm.frames + 1 ≤ R.frames) (h2 : 8 + (2 + 11) + rm.locals ≤ R.locals) : db_cw R yX7_ran cX7_ran 2 (some .int) rm 1 := ⟨wd_642, wd_9, by decide +kernel, h1, h2⟩
theorem cw_X7_remaining {R rm : Room} (h1 : rm.frames + 1 ≤ R.frames) (h2 : 8 + (2 + 11) + rm.locals ≤ R.locals) : db_cw R yX7_remaining cX7_remaining 2 (some .int) rm 1 := ⟨wd_646, wd_9, by decide +kernel, h1, h2⟩
theorem cw_X7_deadlineOf {R rm : Room} (h1 : rm.frames + 1 ≤ R.frames) (h2 : 8 + (2 + 11) + rm.locals ≤ R.locals) : db_cw R yX7_deadlineOf cX7_deadlineOf 2 (some .int) rm 1 := ⟨wd_650, wd_9, by decide +kernel, h1, h2⟩
theorem cw_X7_effective {R rm : Room} (h1 : rm.frames + 1 ≤ R.frames) (h2 : 8 + (2 + 11) + rm.locals ≤ R.locals) : db_cw R yX7_effective cX7_effective 2 (some .int) rm 1 := ⟨wd_654, wd_9, by decide +kernel, h1, h2⟩
theorem cw_X7_waitsFor {R rm : Room} (h1 : rm.frames + 1 ≤ R.frames) (h2 : 8 + (2 + 11) + rm.locals ≤ R.locals) : db_cw R yX7_waitsFor cX7_waitsFor 2 (some .int) rm 1 := ⟨wd_658, wd_9, by decide +kernel, h1, h2⟩
theorem cw_X7_owner {R rm : Room} (h1 : rm.frames + 1 ≤ R.frames) (h2 : 8 + (2 + 11) + rm.locals ≤ R.locals) : db_cw R yX7_owner cX7_owner 2 (some .int) rm 1 := ⟨wd_662, wd_9, by decide +kernel, h1, h2⟩
theorem cw_X7_waiters {R rm : Room} (h1 : rm.frames + 1 ≤ R.frames) (h2 : 8 + (4 + 11) + rm.locals ≤ R.locals) : db_cw R yX7_waiters cX7_waiters 4 (some .int) rm 1 := ⟨wd_666, wd_9, by decide +kernel, h1, h2⟩
theorem cw_X7_missCount {R rm : Room} (h1 : rm.frames + 1 ≤ R.frames) (h2 : 8 + (1 + 11) + rm.locals ≤ R.locals) : db_cw R yX7_missCount cX7_missCount 1 (some .int) rm 0 := ⟨wd_670, wd_9, by decide +kernel, h1, h2⟩
theorem cw_X7_miss {R rm : Room} (h1 : rm.frames + 1 ≤ R.frames) (h2 : 8 + (3 + 11) + rm.locals ≤ R.locals) : db_cw R yX7_miss cX7_miss 3 (some .int) rm 2 := ⟨wd_674, wd_9, by decide +kernel, h1, h2⟩
theorem cw_X7_task {R rm : Room} (h1 : rm.frames + 1 ≤ R.frames) (h2 : 8 + (3 + 11) + rm.locals ≤ R.locals) : db_cw R yX7_task cX7_task 3 (some .int) rm 2 := ⟨wd_678, wd_9, by decide +kernel, h1, h2⟩
theorem cw_X7_sectionsOf {R rm : Room} (h1 : rm.frames + 1 ≤ R.frames) (h2 : 8 + (4 + 11) + rm.locals ≤ R.locals) : db_cw R yX7_sectionsOf cX7_sectionsOf 4 (some .int) rm 1 := ⟨wd_682, wd_9, by decide +kernel, h1, h2⟩
theorem cw_X7_count {R rm : Room} (h1 : rm.frames + 1 ≤ R.frames) (h2 : 8 + (4 + 11) + rm.locals ≤ R.locals) : db_cw R yX7_count cX7_count 4 (some .int) rm 1 := ⟨wd_686, wd_9, by decide +kernel, h1, h2⟩
