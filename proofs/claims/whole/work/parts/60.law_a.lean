/-! the law: what it starts from -/
theorem lw_gw {args : Array Value} {s : State} (hts : ∀ w ∈ lw_tbl, w.before args s = true) : ∀ w ∈ db_gw, w.before args s = true := fun w hw => hts w (List.mem_filter.mp hw).1
theorem lw_K {args : Array Value} {s : State} (hts : ∀ w ∈ lw_tbl, w.before args s = true) : ∃ Γ : db_G, db_K Γ s := by
  have hg := lw_gw hts
  obtain ⟨c0, i0, k0⟩ := u_known (N := 7) (n := 7) hg db_c0.2.1 (hg _ wd_36)
  obtain ⟨c1, i1, k1⟩ := u_known (N := 3) (n := 3) hg db_c1.2.1 (hg _ wd_141)
  obtain ⟨c2, i2, k2⟩ := u_known (N := 2) (n := 2) hg db_c2.2.1 (hg _ wd_160)
  obtain ⟨c3, i3, k3⟩ := u_known (N := 5) (n := 5) hg db_c3.2.1 (hg _ wd_218)
  obtain ⟨c4, i4, k4⟩ := u_known (N := 2) (n := 2) hg db_c4.2.1 (hg _ wd_123)
  obtain ⟨c5, i5, k5⟩ := u_known (N := 12) (n := 12) hg db_c5.2.1 (hg _ wd_30)
  obtain ⟨c6, i6, k6⟩ := u_known (N := 8) (n := 8) hg db_c6.2.1 (hg _ wd_12)
  obtain ⟨c7, i7, k7⟩ := u_known (N := 36) (n := 36) hg db_c7.2.1 (hg _ wd_433)
  obtain ⟨cI, kI, oI, a1, a2, a3⟩ := Cond.arrayClass_spec (hg _ wd_139)
  obtain ⟨cZ, kZ, oZ, b1, b2, b3⟩ := Cond.arrayClass_spec (hg _ wd_550)
  obtain ⟨oT, cT, kT, t1, -, t2, t3, t4⟩ := Cond.arrayOver_spec (hts _ wn_29)
  obtain ⟨oS, cS, kS, u1, -, u2, u3, u4⟩ := Cond.arrayOver_spec (hts _ wn_129)
  refine ⟨((fun c => match c with | 0 => c0 | 1 => c1 | 2 => c2 | 3 => c3 | 4 => c4 | 5 => c5 | 6 => c6 | _ => c7, fun c => match c with | 0 => i0 | 1 => i1 | 2 => i2 | 3 => i3 | 4 => i4 | 5 => i5 | 6 => i6 | _ => i7), fun c => match c with | 0 => cI | 1 => cZ | 2 => cT | _ => cS), ⟨?_, ?_⟩, ?_, va_AO.of (hts _ wn_29), va_AO.of (hts _ wn_129)⟩
  · intro c q hq
    match c, hq with
    | 0, hq => cases hq; exact k0
    | 1, hq => cases hq; exact k1
    | 2, hq => cases hq; exact k2
    | 3, hq => cases hq; exact k3
    | 4, hq => cases hq; exact k4
    | 5, hq => cases hq; exact k5
    | 6, hq => cases hq; exact k6
    | 7, hq => cases hq; exact k7
    | n + 8, hq => cases hq
  · intro k q hq
    match k, hq with
    | 0, hq => cases hq; exact ⟨fun n z => ⟨(fun k h => by cases h), kI, a2, oI, a3⟩, a1⟩
    | 1, hq => cases hq; exact ⟨fun n z => ⟨(fun k h => by cases h), kZ, b2, oZ, b3⟩, b1⟩
    | 2, hq => cases hq; exact ⟨fun n z => ⟨(fun k h => by cases h), kT, t2, oT, t3⟩, kT, oT, t2, t3, t1, t4⟩
    | 3, hq => cases hq; exact ⟨fun n z => ⟨(fun k h => by cases h), kS, u2, oS, u3⟩, kS, oS, u2, u3, u1, u4⟩
    | n + 4, hq => cases hq
  · intro w hw hn
    refine va_Nw.of ?_ (hts w hw)
    cases w <;> first | rfl | (simp [db_isN] at hn)
section LAWC
variable {p : Program} {l : Launch} {e : Env} {R : Room} {s : State} {m : MethodId} {args : Array Value} {below : List Frame} {meth : Method} {c : Code} {H : Heap} {locs : List Loc} {cells slots : Nat} {Q : State → Prop}
variable {cc : ByteArray} {pc nL : Nat} {ls : Array Slot} {rest st0 : List Value} {Γ : db_G} {A : Nat → Prop} {H0 : Heap} {own : String} {ret0 : Option FieldType} {hB hM : db_Mem}
/-- a call on the one memory; the other stays -/
theorem db_after2 {P : Option Value → db_Mem → Prop} {mc ms : Nat} {g : JFrame} {a1 : Array Value} (hW : db_W Γ A H0 hB H locs) (hp : db_Hp Γ hM H) (hd : ∀ q x, hM q = some x → hB q = none)
    (hr : va_Run p l e R s m args below meth c H locs cells slots mc ms g rest (db_Q P Γ (db_A hB H.size) a1) (db_A hB H.size))
    (kk : ∀ (v : Option Value) (h' : db_Mem) (H1 : Heap) (locs1 : List Loc), P v h' → db_W Γ A H0 h' H1 locs1 → db_Hp Γ hM H1 → (∀ q x, hM q = some x → h' q = none) → W p l e R s m args below meth c H1 locs1 (cells + mc) (slots + ms) Q { g with pc := g.pc + 3, stack := v.toList ++ rest }) :
    W p l e R s m args below meth c H locs cells slots Q g := by
  intro T hT X
  obtain ⟨v, st₀, t, T', L, h0, X', hL, e1, e2, ⟨⟨v', h', hv, hP, hH, hD⟩, hz, hk⟩, st⟩ := hr T hT X
  cases hv
  have hA : ∀ q : Nat, db_A hB H.size q → A q := by
    intro q hq
    rcases hq with hq | hq
    · cases e9 : hB q with
      | none => exact absurd e9 hq
      | some x => exact hW.2.1 q x e9
    · exact hW.2.2.2 q (Nat.le_trans hW.2.2.1.1 hq)
  rw [h0] at hz hk
  have hnA : ∀ q x, hM q = some x → q < H.size ∧ ¬ db_A hB H.size q := by
    intro q x hq
    have hl := (hp q x hq).lt
    refine ⟨hl, fun z => ?_⟩
    rcases z with z | z
    · exact z (hd q x hq)
    · exact absurd hl (by simpa using z)
  obtain ⟨t2, a2, b2⟩ := kk v h' T'.heap (locs ++ L) hP ⟨by rw [e1]; exact hH, fun a x hx => hA a (hD a x hx), ⟨Nat.le_trans hW.2.2.1.1 (by rw [e1]; exact hz), fun q h1 h2 => by rw [e1, hk q (Nat.lt_of_lt_of_le h1 hW.2.2.1.1) (fun z => h2 (hA q z))]; exact hW.2.2.1.2.1 q h1 h2, fun q hq => by
      rcases List.mem_append.mp hq with h | h
      · exact hW.2.2.1.2.2 q h
      · exact hA _ (hL q h)⟩, hW.2.2.2⟩
    (fun q x hq => by
      obtain ⟨h1, h2⟩ := hnA q x hq
      exact (hp q x hq).kept (by rw [e1]; exact hk q h1 h2))
    (fun q x hq => by
      cases e9 : h' q with
      | none => rfl
      | some y => exact absurd (hD q y e9) (hnA q x hq).2) T' rfl X'
  exact ⟨t2, st t2 a2, b2⟩
theorem db_after2N {P : Option Value → db_Mem → Nat → Prop} {mc ms : Nat} {g : JFrame} {a1 : Array Value} (hW : db_W Γ A H0 hB H locs) (hp : db_Hp Γ hM H) (hd : ∀ q x, hM q = some x → hB q = none)
    (hr : va_Run p l e R s m args below meth c H locs cells slots mc ms g rest (db_QN P Γ (db_A hB H.size) a1) (db_A hB H.size))
    (kk : ∀ (v : Option Value) (h' : db_Mem) (H1 : Heap) (locs1 : List Loc), P v h' H1.size → db_W Γ A H0 h' H1 locs1 → db_Hp Γ hM H1 → (∀ q x, hM q = some x → h' q = none) → W p l e R s m args below meth c H1 locs1 (cells + mc) (slots + ms) Q { g with pc := g.pc + 3, stack := v.toList ++ rest }) :
    W p l e R s m args below meth c H locs cells slots Q g := by
  intro T hT X
  obtain ⟨v, st₀, t, T', L, h0, X', hL, e1, e2, ⟨⟨v', h', hv, hP, hH, hD⟩, hz, hk⟩, st⟩ := hr T hT X
  cases hv
  have hA : ∀ q : Nat, db_A hB H.size q → A q := by
    intro q hq
    rcases hq with hq | hq
    · cases e9 : hB q with
      | none => exact absurd e9 hq
      | some x => exact hW.2.1 q x e9
    · exact hW.2.2.2 q (Nat.le_trans hW.2.2.1.1 hq)
  rw [h0] at hz hk
  have hnA : ∀ q x, hM q = some x → q < H.size ∧ ¬ db_A hB H.size q := by
    intro q x hq
    have hl := (hp q x hq).lt
    refine ⟨hl, fun z => ?_⟩
    rcases z with z | z
    · exact z (hd q x hq)
    · exact absurd hl (by simpa using z)
  obtain ⟨t2, a2, b2⟩ := kk v h' T'.heap (locs ++ L) (by rw [e1]; exact hP) ⟨by rw [e1]; exact hH, fun a x hx => hA a (hD a x hx), ⟨Nat.le_trans hW.2.2.1.1 (by rw [e1]; exact hz), fun q h1 h2 => by rw [e1, hk q (Nat.lt_of_lt_of_le h1 hW.2.2.1.1) (fun z => h2 (hA q z))]; exact hW.2.2.1.2.1 q h1 h2, fun q hq => by
      rcases List.mem_append.mp hq with h | h
      · exact hW.2.2.1.2.2 q h
      · exact hA _ (hL q h)⟩, hW.2.2.2⟩
    (fun q x hq => by
      obtain ⟨h1, h2⟩ := hnA q x hq
      exact (hp q x hq).kept (by rw [e1]; exact hk q h1 h2))
    (fun q x hq => by
      cases e9 : h' q with
      | none => rfl
      | some y => exact absurd (hD q y e9) (hnA q x hq).2) T' rfl X'
  exact ⟨t2, st t2 a2, b2⟩
/-- the two memories -/
def db_W2 (Γ : db_G) (A : Nat → Prop) (H0 : Heap) (hB hM : db_Mem) (H : Heap) (locs : List Loc) : Prop := db_W Γ A H0 hB H locs ∧ db_Hp Γ hM H ∧ (∀ q x, hM q = some x → hB q = none) ∧ ∀ q x, hM q = some x → A q
theorem db_W2.sw (h : db_W2 Γ A H0 hB hM H locs) : db_W2 Γ A H0 hM hB H locs := by
  obtain ⟨h1, h2, h3, h4⟩ := h
  refine ⟨⟨h2, h4, h1.2.2.1, h1.2.2.2⟩, h1.1, fun q x hq => ?_, h1.2.1⟩
  cases e9 : hM q with
  | none => rfl
  | some y => rw [h3 q y e9] at hq; cases hq
/-- a call by contract on a world in the first memory -/
theorem lw_call {y : MethodName} {cc1 : ByteArray} {maxL1 n index ci : Nat} {ret1 : Option FieldType} {rm : Room} {As vs : List Value} {r : Option Value} {C : String} {T : u_T} {ty : Nat → FieldType} {N1 : Nat} {L : Nat → Nat → Nat} {ok : Nat → Nat → Prop} {cel : Nat → Nat → (Nat → Int32) → va_E} {X X' : db_X}
    (hC : db_Cx p s m args meth c Γ own cc nL ret0) (hW : db_W2 Γ A H0 hB hM H locs) (hR : db_R L ok cel X hB) (hok : ok 0 0) (he : cel 0 0 (X 0 0) = .inr (ci, vs)) (hcl : db_cls ci C T ty N1) (hMt : db_C l Γ y cc1 maxL1 ret1 rm (.ref (L 0 0) :: As) L ok cel X r X')
    (hw : db_cw R y cc1 maxL1 ret1 rm n) (hl : Cond.methodLink own index y ∈ db_gw) (hi : Cond.instanceMethod y ∈ db_gw) (hs : Cond.selects C y y ∈ db_gw)
    (hn : As.length = n) (hsz : ls.size = nL) (hst : st0 = As.reverse ++ .ref (L 0 0) :: rest) (hr : (rest.map fun v => v.category).sum ≤ 8) (hdg : decode cc pc = .ok (.invokevirtual index, 3)) (hf : cells + rm.cells ≤ R.cells ∧ slots + rm.slots ≤ R.slots)
    {st1 : List Value} (hst1 : r.toList ++ rest = st1)
    (kk : ∀ (h' : db_Mem) (H1 : Heap) (locs1 : List Loc), db_R L ok cel X' h' → db_W2 Γ A H0 h' hM H1 locs1 → W p l e R s m args below meth c H1 locs1 (cells + rm.cells) (slots + rm.slots) Q (F0 m (pc + 3) ls st1)) : W p l e R s m args below meth c H locs cells slots Q (F0 m pc ls st0) := by
  obtain ⟨h1, h2, h3, h4⟩ := hW
  refine db_after2 h1 h2 h3 (db_runVM hC h1 (hMt hB hR) hcl ((hR.1 0 0 hok).trans (by rw [he])) hw hl hi hs hn hsz hst hr hdg hf) fun v h' H1 locs1 hP hW1 hp1 hd1 => ?_
  obtain ⟨rfl, hR1⟩ := hP
  subst hst1
  exact kk h' H1 locs1 hR1 ⟨hW1, hp1, hd1, h4⟩
/-- the same of a method that makes cells -/
theorem lw_callN {y : MethodName} {cc1 : ByteArray} {maxL1 n index ci : Nat} {ret1 : Option FieldType} {rm : Room} {As vs : List Value} {P : Option Value → db_Mem → Nat → Prop} {C : String} {T : u_T} {ty : Nat → FieldType} {N1 b : Nat}
    (hC : db_Cx p s m args meth c Γ own cc nL ret0) (hW : db_W2 Γ A H0 hB hM H locs) (hb : hB b = some (.inr (ci, vs))) (hcl : db_cls ci C T ty N1) (hMt : db_N l Γ y cc1 maxL1 ret1 rm (.ref b :: As) hB H.size P)
    (hw : db_cw R y cc1 maxL1 ret1 rm n) (hl : Cond.methodLink own index y ∈ db_gw) (hi : Cond.instanceMethod y ∈ db_gw) (hs : Cond.selects C y y ∈ db_gw)
    (hn : As.length = n) (hsz : ls.size = nL) (hst : st0 = As.reverse ++ .ref b :: rest) (hr : (rest.map fun v => v.category).sum ≤ 8) (hdg : decode cc pc = .ok (.invokevirtual index, 3)) (hf : cells + rm.cells ≤ R.cells ∧ slots + rm.slots ≤ R.slots)
    (kk : ∀ (v : Option Value) (h' : db_Mem) (H1 : Heap) (locs1 : List Loc), P v h' H1.size → db_W2 Γ A H0 h' hM H1 locs1 → W p l e R s m args below meth c H1 locs1 (cells + rm.cells) (slots + rm.slots) Q (F0 m (pc + 3) ls (v.toList ++ rest))) : W p l e R s m args below meth c H locs cells slots Q (F0 m pc ls st0) := by
  obtain ⟨h1, h2, h3, h4⟩ := hW
  obtain ⟨hx, hbb, hml, -, -, hown, hts, hK⟩ := hC
  exact db_after2N h1 h2 h3 (va_runV ⟨hx, hbb, hml, hown, hts⟩ hMt ⟨db_cB hts hw hl, hts _ hi, hts _ hs⟩ (db_preV hK h1 hcl hb) rfl hn hsz hst (lv_room hr) hdg hf) fun v h' H1 locs1 hP hW1 hp1 hd1 => kk v h' H1 locs1 hP ⟨hW1, hp1, hd1, h4⟩
/-- a constructor's call -/
theorem lw_callI {y : MethodName} {cc1 : ByteArray} {maxL1 n index b : Nat} {rm : Room} {As : List Value} {P : Option Value → db_Mem → Nat → Prop} {z : Nat}
    (hC : db_Cx p s m args meth c Γ own cc nL ret0) (hW : db_W2 Γ A H0 hB hM H locs) (hz : H.size = z) (hMt : db_N l Γ y cc1 maxL1 none rm (.ref b :: As) hB z P)
    (hw : db_cw R y cc1 maxL1 none rm n) (hl : Cond.methodLink own index y ∈ db_gw) (hi : Cond.instanceMethod y ∈ db_gw) (hy1 : y.name = "<init>")
    (hn : As.length = n) (hsz : ls.size = nL) (hst : st0 = As.reverse ++ .ref b :: rest) (hr : (rest.map fun v => v.category).sum ≤ 8) (hdg : decode cc pc = .ok (.invokespecial index, 3)) (hf : cells + rm.cells ≤ R.cells ∧ slots + rm.slots ≤ R.slots)
    (kk : ∀ (v : Option Value) (h' : db_Mem) (H1 : Heap) (locs1 : List Loc), P v h' H1.size → db_W2 Γ A H0 h' hM H1 locs1 → W p l e R s m args below meth c H1 locs1 (cells + rm.cells) (slots + rm.slots) Q (F0 m (pc + 3) ls (v.toList ++ rest))) : W p l e R s m args below meth c H locs cells slots Q (F0 m pc ls st0) := by
  subst hz
  obtain ⟨h1, h2, h3, h4⟩ := hW
  obtain ⟨hx, hbb, hml, -, -, hown, hts, hK⟩ := hC
  exact db_after2N h1 h2 h3 (va_runI ⟨hx, hbb, hml, hown, hts⟩ hMt ⟨db_cB hts hw hl, hy1, hts _ hi⟩ (db_preS hK h1) rfl hn hsz hst (lv_room hr) hdg hf) fun v h' H1 locs1 hP hW1 hp1 hd1 => kk v h' H1 locs1 hP ⟨hW1, hp1, hd1, h4⟩
/-- a call that leaves the heap -/
theorem lw_run0 {mc ms : Nat} {g : JFrame} {r : Int32} (hr : va_Run p l e R s m args below meth c H locs cells slots mc ms g rest (fun st oc t => oc = .returned (some (.int r)) ∧ t.heap = st.heap) (fun _ => False))
    (kk : W p l e R s m args below meth c H locs (cells + mc) (slots + ms) Q { g with pc := g.pc + 3, stack := .int r :: rest }) : W p l e R s m args below meth c H locs cells slots Q g := by
  intro T hT X
  obtain ⟨v, st₀, t, T', L, h0, X', hL, e1, e2, ⟨hv, hh⟩, st⟩ := hr T hT X
  cases hv
  have hLn : L = [] := by
    cases L with
    | nil => rfl
    | cons a L => exact (hL a List.mem_cons_self).elim
  subst hLn
  rw [List.append_nil] at X'
  obtain ⟨t2, a2, b2⟩ := kk T' (by rw [e1, hh, h0]) X'
  exact ⟨t2, st t2 a2, b2⟩
end LAWC
/-- the k-th of the script, 0 behind its end -/
def lw_at (L : Nat) (xs : Nat → Int32) (k : Nat) : Int32 := if k < L then xs k else 0
def lw_PcX (b L : Nat) (xs : Nat → Int32) (k : Nat) : Array Value → State → Prop := va_Pc [.ref b, .int (nI k)] (fun U => va_X b L xs U U.heap)
set_option maxHeartbeats 4000000 in
set_option maxRecDepth 100000 in
theorem c_L_cell (l : Launch) (b L k : Nat) (xs : Nat → Int32) (hL : L < 2 ^ 31) (hk : k < 2 ^ 31) : Met l yL_cell (db_Cd yL_cell cL_cell 2 (some .int)) (db_rm 0 0) (lw_PcX b L xs k) (fun _ st oc t => oc = .returned (some (.int (lw_at L xs k))) ∧ t.heap = st.heap) 0 0 (fun _ => False) := by
  refine Met.ofW (cc := cL_cell) (maxL := 2) (ret := some .int) (by decide +kernel) rfl ?_
  intro p e s m args below meth c s₁ B hml hv
  obtain ⟨rfl, hX⟩ := hv
  have hx := B.exec
  have hb := B.bytes
  have hr := B.returns
  have hlocks := B.notSynchronized
  have hbl : b < s.heap.size := by
    obtain ⟨scr, h1, -⟩ := hX
    exact (Array.getElem?_eq_some_iff.mp h1).1
  have hS : va_S (fun _ => False) s.heap s.heap [] := va_S.rf
  have hl := lv_entry ([.ref b, .int (nI k)]) (n := 2) (Nat.le_of_ble_eq_true rfl)
  rw [lg_entry_eq]
  generalize (lg_sl ([.ref b, .int (nI k)]) ++ List.replicate (2 - (lg_sl ([.ref b, .int (nI k)])).length) Slot.unset).toArray = ls at hl ⊢
  have hl : lv_has ls 2 [(0, .ref b), (1, .int (nI k))] := hl
  refine lv_iload_n hx hb dL_cell_0 rfl (lv_at hl 1 rfl) ?_
  refine lv_aload_n hx hb dL_cell_1 rfl (lv_at hl 0 rfl) ?_
  refine va_slen hx hb hX hbl (fun z => z) hS dL_cell_2 ?_
  refine lv_icmp_ge (tgt := 12) hx hb dL_cell_3 (by decide) (fun c3 => ?_) (fun c3 => ?_)
  · have hk2 : ¬ k < L := fun z => absurd c3 (nI_ge z hL)
    refine lv_iconst (v := 0) hx hb dL_cell_12 (by decide) ?_
    exact W.iret hx hb hr (fun t ht _ => ⟨by rw [lw_at, if_neg hk2], ht⟩) (fun _ h => by cases h) dL_cell_13 hlocks
  · have hk2 : k < L := Nat.not_le.mp (fun z => c3 (nI_le z hk))
    refine lv_aload_n hx hb dL_cell_6 rfl (lv_at hl 0 rfl) ?_
    refine lv_iload_n hx hb dL_cell_7 rfl (lv_at hl 1 rfl) ?_
    refine va_sld hx hb hX hbl (fun z => z) hS (vp_in_nI hk2 hL) dL_cell_8 ?_
    refine lv_goto (tgt := 13) hx hb dL_cell_9 (by decide) ?_
    rw [nI_clamp hk]
    exact W.iret hx hb hr (fun t ht _ => ⟨by rw [lw_at, if_pos hk2], ht⟩) (fun _ h => by cases h) dL_cell_13 hlocks
