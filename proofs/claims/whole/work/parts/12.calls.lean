/-! calls: from a contract db_M / db_C to W -/
section DBC
variable {p : Program} {l : Launch} {e : Env} {R : Room} {s : State} {m : MethodId} {args : Array Value} {below : List Frame} {meth : Method} {c : Code} {H : Heap} {locs : List Loc} {cells slots : Nat} {Q : State → Prop}
variable {cc : ByteArray} {pc nL : Nat} {ls : Array Slot} {rest st0 : List Value} {Γ : db_G} {A : Nat → Prop} {H0 : Heap} {own : String} {ret0 : Option FieldType}
/-- behind a run: the memory that the callee left -/
theorem db_after {h : db_Mem} {P : Option Value → db_Mem → Prop} {mc ms : Nat} {g : JFrame} {a1 : Array Value} (hW : db_W Γ A H0 h H locs)
    (hr : va_Run p l e R s m args below meth c H locs cells slots mc ms g rest (db_Q P Γ (db_A h H.size) a1) (db_A h H.size))
    (kk : ∀ (v : Option Value) (h' : db_Mem) (H1 : Heap) (locs1 : List Loc), P v h' → db_W Γ A H0 h' H1 locs1 → W p l e R s m args below meth c H1 locs1 (cells + mc) (slots + ms) Q { g with pc := g.pc + 3, stack := v.toList ++ rest }) :
    W p l e R s m args below meth c H locs cells slots Q g := by
  intro T hT X
  obtain ⟨v, st₀, t, T', L, h0, X', hL, e1, e2, ⟨⟨v', h', hv, hP, hH, hD⟩, hz, hk⟩, st⟩ := hr T hT X
  cases hv
  have hA : ∀ q : Nat, db_A h H.size q → A q := by
    intro q hq
    rcases hq with hq | hq
    · cases e9 : h q with
      | none => exact absurd e9 hq
      | some x => exact hW.2.1 q x e9
    · exact hW.2.2.2 q (Nat.le_trans hW.2.2.1.1 hq)
  rw [h0] at hz hk
  obtain ⟨t2, a2, b2⟩ := kk v h' T'.heap (locs ++ L) hP ⟨by rw [e1]; exact hH, fun a x hx => hA a (hD a x hx), ⟨Nat.le_trans hW.2.2.1.1 (by rw [e1]; exact hz), fun q h1 h2 => by rw [e1, hk q (Nat.lt_of_lt_of_le h1 hW.2.2.1.1) (fun z => h2 (hA q z))]; exact hW.2.2.1.2.1 q h1 h2, fun q hq => by
      rcases List.mem_append.mp hq with h | h
      · exact hW.2.2.1.2.2 q h
      · exact hA _ (hL q h)⟩, hW.2.2.2⟩ T' rfl X'
  exact ⟨t2, st t2 a2, b2⟩
theorem db_preS {h : db_Mem} {av : List Value} (hK : db_K Γ s) (hW : db_W Γ A H0 h H locs) : PreS s H (db_Pre Γ av h H.size) av :=
  ⟨db_blind, fun U hU hWm => ⟨rfl, by rw [hU], hK.warm hWm, by rw [hU]; exact hW.1⟩⟩
theorem db_preV {h : db_Mem} {b ci : Nat} {As vs : List Value} {C : String} {T : u_T} {ty : Nat → FieldType} {N : Nat} (hK : db_K Γ s) (hW : db_W Γ A H0 h H locs) (hc : db_cls ci C T ty N) (hb : h b = some (.inr (ci, vs))) : PreV s H C b (db_Pre Γ (.ref b :: As) h H.size) As :=
  ⟨db_blind, va_recv (ws := [(b, .inr (ci, vs))]) hK.1 (db_one (hW.1 _ _ hb)) hc.1 (q0 := 0) rfl, fun U hU hWm => ⟨rfl, by rw [hU], hK.warm hWm, by rw [hU]; exact hW.1⟩⟩
/-- words of a call, and the room -/
def db_cw (R : Room) (y : MethodName) (cc1 : ByteArray) (maxL1 : Nat) (ret1 : Option FieldType) (rm : Room) (n : Nat) : Prop :=
  Cond.code y cc1 maxL1 ret1 ∈ db_gw ∧ Cond.initialized y.cls ∈ db_gw ∧ (y.cls ≠ "java/lang/invoke/MethodHandle" ∧ y.cls ≠ "java/lang/invoke/VarHandle" ∧ (parseMethodDescriptor y.desc).map (fun d => d.parameters.length) = some n) ∧ rm.frames + 1 ≤ R.frames ∧ 8 + (maxL1 + 11) + rm.locals ≤ R.locals
theorem db_cB {y : MethodName} {cc1 : ByteArray} {maxL1 n index : Nat} {ret1 : Option FieldType} {rm : Room} (hts : ∀ w ∈ db_gw, w.before args s = true) (h : db_cw R y cc1 maxL1 ret1 rm n) (hl : Cond.methodLink own index y ∈ db_gw) : CallB R s args own index y cc1 maxL1 ret1 (db_Cd y cc1 maxL1 ret1) rm rm.cells rm.slots n :=
  callB_of n hts (db_good h.1) rfl rfl rfl (hts _ h.2.1) (hts _ hl) h.2.2.1 h.2.2.2
theorem db_cN {y : MethodName} {cc1 : ByteArray} {maxL1 n index : Nat} {ret1 : Option FieldType} {rm : Room} {host : String} (hts : ∀ w ∈ db_gw, w.before args s = true) (hK : db_K Γ s) (h : db_cw R y cc1 maxL1 ret1 rm n) (hl : Cond.methodLinkNest own index y host ∈ lw_tbl) : va_CN R s args own index y host cc1 maxL1 ret1 (db_Cd y cc1 maxL1 ret1) rm rm.cells rm.slots n :=
  va_cnB n hts (db_good h.1) rfl rfl rfl (hK.2.1 _ hl rfl) (hts _ h.2.1) h.2.2.1 h.2.2.2
/-! raw calls: memory h, contract db_M -/
theorem db_runVM {y : MethodName} {cc1 : ByteArray} {maxL1 n index b ci : Nat} {ret1 : Option FieldType} {rm : Room} {As vs : List Value} {h : db_Mem} {P : Option Value → db_Mem → Prop} {C : String} {T : u_T} {ty : Nat → FieldType} {N : Nat}
    (hC : db_Cx p s m args meth c Γ own cc nL ret0) (hW : db_W Γ A H0 h H locs) (hM : db_M l Γ y cc1 maxL1 ret1 rm (.ref b :: As) h P) (hcl : db_cls ci C T ty N) (hb : h b = some (.inr (ci, vs)))
    (hw : db_cw R y cc1 maxL1 ret1 rm n) (hl : Cond.methodLink own index y ∈ db_gw) (hi : Cond.instanceMethod y ∈ db_gw) (hs : Cond.selects C y y ∈ db_gw)
    (hn : As.length = n) (hsz : ls.size = nL) (hst : st0 = As.reverse ++ .ref b :: rest) (hr : (rest.map fun v => v.category).sum ≤ 8) (hdg : decode cc pc = .ok (.invokevirtual index, 3)) (hf : cells + rm.cells ≤ R.cells ∧ slots + rm.slots ≤ R.slots) :
    va_Run p l e R s m args below meth c H locs cells slots rm.cells rm.slots (F0 m pc ls st0) rest (db_Q P Γ (db_A h H.size) (Value.ref b :: As).toArray) (db_A h H.size) := by
  obtain ⟨hx, hbb, hml, -, -, hown, hts, hK⟩ := hC
  exact va_runV ⟨hx, hbb, hml, hown, hts⟩ (hM H.size) ⟨db_cB hts hw hl, hts _ hi, hts _ hs⟩ (db_preV hK hW hcl hb) rfl hn hsz hst (lv_room hr) hdg hf
theorem db_runVNM {y : MethodName} {cc1 : ByteArray} {maxL1 n index b ci : Nat} {ret1 : Option FieldType} {rm : Room} {As vs : List Value} {h : db_Mem} {P : Option Value → db_Mem → Prop} {C host : String} {T : u_T} {ty : Nat → FieldType} {N : Nat}
    (hC : db_Cx p s m args meth c Γ own cc nL ret0) (hW : db_W Γ A H0 h H locs) (hM : db_M l Γ y cc1 maxL1 ret1 rm (.ref b :: As) h P) (hcl : db_cls ci C T ty N) (hb : h b = some (.inr (ci, vs)))
    (hw : db_cw R y cc1 maxL1 ret1 rm n) (hl : Cond.methodLinkNest own index y host ∈ lw_tbl) (hi : Cond.instanceMethod y ∈ db_gw) (hs : Cond.selects C y y ∈ db_gw)
    (hn : As.length = n) (hsz : ls.size = nL) (hst : st0 = As.reverse ++ .ref b :: rest) (hr : (rest.map fun v => v.category).sum ≤ 8) (hdg : decode cc pc = .ok (.invokevirtual index, 3)) (hf : cells + rm.cells ≤ R.cells ∧ slots + rm.slots ≤ R.slots) :
    va_Run p l e R s m args below meth c H locs cells slots rm.cells rm.slots (F0 m pc ls st0) rest (db_Q P Γ (db_A h H.size) (Value.ref b :: As).toArray) (db_A h H.size) := by
  obtain ⟨hx, hbb, hml, -, -, hown, hts, hK⟩ := hC
  exact va_runVN ⟨hx, hbb, hml, hown, hts⟩ (hM H.size) ⟨db_cN hts hK hw hl, hts _ hi, hts _ hs⟩ (db_preV hK hW hcl hb) rfl hn hsz hst (lv_room hr) hdg hf
theorem db_runIM {y : MethodName} {cc1 : ByteArray} {maxL1 n index b : Nat} {rm : Room} {As : List Value} {h : db_Mem} {P : Option Value → db_Mem → Prop}
    (hC : db_Cx p s m args meth c Γ own cc nL ret0) (hW : db_W Γ A H0 h H locs) (hM : db_M l Γ y cc1 maxL1 none rm (.ref b :: As) h P)
    (hw : db_cw R y cc1 maxL1 none rm n) (hl : Cond.methodLink own index y ∈ db_gw) (hi : Cond.instanceMethod y ∈ db_gw) (hy1 : y.name = "<init>")
    (hn : As.length = n) (hsz : ls.size = nL) (hst : st0 = As.reverse ++ .ref b :: rest) (hr : (rest.map fun v => v.category).sum ≤ 8) (hdg : decode cc pc = .ok (.invokespecial index, 3)) (hf : cells + rm.cells ≤ R.cells ∧ slots + rm.slots ≤ R.slots) :
    va_Run p l e R s m args below meth c H locs cells slots rm.cells rm.slots (F0 m pc ls st0) rest (db_Q P Γ (db_A h H.size) (Value.ref b :: As).toArray) (db_A h H.size) := by
  obtain ⟨hx, hbb, hml, -, -, hown, hts, hK⟩ := hC
  exact va_runI ⟨hx, hbb, hml, hown, hts⟩ (hM H.size) ⟨db_cB hts hw hl, hy1, hts _ hi⟩ (db_preS hK hW) rfl hn hsz hst (lv_room hr) hdg hf
theorem db_runINM {y : MethodName} {cc1 : ByteArray} {maxL1 n index b : Nat} {rm : Room} {As : List Value} {h : db_Mem} {P : Option Value → db_Mem → Prop} {host : String}
    (hC : db_Cx p s m args meth c Γ own cc nL ret0) (hW : db_W Γ A H0 h H locs) (hM : db_M l Γ y cc1 maxL1 none rm (.ref b :: As) h P)
    (hw : db_cw R y cc1 maxL1 none rm n) (hl : Cond.methodLinkNest own index y host ∈ lw_tbl) (hi : Cond.instanceMethod y ∈ db_gw) (hy1 : y.name = "<init>")
    (hn : As.length = n) (hsz : ls.size = nL) (hst : st0 = As.reverse ++ .ref b :: rest) (hr : (rest.map fun v => v.category).sum ≤ 8) (hdg : decode cc pc = .ok (.invokespecial index, 3)) (hf : cells + rm.cells ≤ R.cells ∧ slots + rm.slots ≤ R.slots) :
    va_Run p l e R s m args below meth c H locs cells slots rm.cells rm.slots (F0 m pc ls st0) rest (db_Q P Γ (db_A h H.size) (Value.ref b :: As).toArray) (db_A h H.size) := by
  obtain ⟨hx, hbb, hml, -, -, hown, hts, hK⟩ := hC
  exact va_runIN ⟨hx, hbb, hml, hown, hts⟩ (hM H.size) ⟨db_cN hts hK hw hl, hy1, hts _ hi⟩ (db_preS hK hW) rfl hn hsz hst (lv_room hr) hdg hf
theorem db_runSM {y : MethodName} {cc1 : ByteArray} {maxL1 n index : Nat} {ret1 : Option FieldType} {rm : Room} {As : List Value} {h : db_Mem} {P : Option Value → db_Mem → Prop}
    (hC : db_Cx p s m args meth c Γ own cc nL ret0) (hW : db_W Γ A H0 h H locs) (hM : db_M l Γ y cc1 maxL1 ret1 rm As h P)
    (hw : db_cw R y cc1 maxL1 ret1 rm n) (hl : Cond.methodLink own index y ∈ db_gw) (hi : Cond.static y ∈ db_gw)
    (hn : As.length = n) (hsz : ls.size = nL) (hst : st0 = As.reverse ++ rest) (hr : (rest.map fun v => v.category).sum ≤ 8) (hdg : decode cc pc = .ok (.invokestatic index, 3)) (hf : cells + rm.cells ≤ R.cells ∧ slots + rm.slots ≤ R.slots) :
    va_Run p l e R s m args below meth c H locs cells slots rm.cells rm.slots (F0 m pc ls st0) rest (db_Q P Γ (db_A h H.size) As.toArray) (db_A h H.size) := by
  obtain ⟨hx, hbb, hml, -, -, hown, hts, hK⟩ := hC
  exact va_runS ⟨hx, hbb, hml, hown, hts⟩ (hM H.size) ⟨db_cB hts hw hl, hts _ hi⟩ (db_preS hK hW) rfl hn hsz hst (lv_room hr) hdg hf
/-! calls over a world -/
variable {L : Nat → Nat → Nat} {ok : Nat → Nat → Prop} {cel : Nat → Nat → (Nat → Int32) → va_E} {X X' : db_X}
theorem db_cV {y : MethodName} {cc1 : ByteArray} {maxL1 n index ci : Nat} {ret1 : Option FieldType} {rm : Room} {As vs : List Value} {r : Option Value} {C : String} {T : u_T} {ty : Nat → FieldType} {N : Nat}
    (hC : db_Cx p s m args meth c Γ own cc nL ret0) (hS : db_S Γ A H0 L ok cel X H locs) (k i : Nat) (hok : ok k i) (he : cel k i (X k i) = .inr (ci, vs)) (hcl : db_cls ci C T ty N) (hM : db_C l Γ y cc1 maxL1 ret1 rm (.ref (L k i) :: As) L ok cel X r X')
    (hw : db_cw R y cc1 maxL1 ret1 rm n) (hl : Cond.methodLink own index y ∈ db_gw) (hi : Cond.instanceMethod y ∈ db_gw) (hs : Cond.selects C y y ∈ db_gw)
    (hn : As.length = n) (hsz : ls.size = nL) (hst : st0 = As.reverse ++ .ref (L k i) :: rest) (hr : (rest.map fun v => v.category).sum ≤ 8) (hdg : decode cc pc = .ok (.invokevirtual index, 3)) (hf : cells + rm.cells ≤ R.cells ∧ slots + rm.slots ≤ R.slots)
    {st1 : List Value} (hst1 : r.toList ++ rest = st1)
    (kk : ∀ (H1 : Heap) (locs1 : List Loc), db_S Γ A H0 L ok cel X' H1 locs1 → W p l e R s m args below meth c H1 locs1 (cells + rm.cells) (slots + rm.slots) Q (F0 m (pc + 3) ls st1)) : W p l e R s m args below meth c H locs cells slots Q (F0 m pc ls st0) := by
  obtain ⟨h, hR, hW⟩ := hS
  refine db_after hW (db_runVM hC hW (hM h hR) hcl ((hR.1 k i hok).trans (by rw [he])) hw hl hi hs hn hsz hst hr hdg hf) fun v h' H1 locs1 hP hW1 => ?_
  obtain ⟨rfl, hR1⟩ := hP
  subst hst1
  exact kk H1 locs1 ⟨h', hR1, hW1⟩
theorem db_cVN {y : MethodName} {cc1 : ByteArray} {maxL1 n index ci : Nat} {ret1 : Option FieldType} {rm : Room} {As vs : List Value} {r : Option Value} {C host : String} {T : u_T} {ty : Nat → FieldType} {N : Nat}
    (hC : db_Cx p s m args meth c Γ own cc nL ret0) (hS : db_S Γ A H0 L ok cel X H locs) (k i : Nat) (hok : ok k i) (he : cel k i (X k i) = .inr (ci, vs)) (hcl : db_cls ci C T ty N) (hM : db_C l Γ y cc1 maxL1 ret1 rm (.ref (L k i) :: As) L ok cel X r X')
    (hw : db_cw R y cc1 maxL1 ret1 rm n) (hl : Cond.methodLinkNest own index y host ∈ lw_tbl) (hi : Cond.instanceMethod y ∈ db_gw) (hs : Cond.selects C y y ∈ db_gw)
    (hn : As.length = n) (hsz : ls.size = nL) (hst : st0 = As.reverse ++ .ref (L k i) :: rest) (hr : (rest.map fun v => v.category).sum ≤ 8) (hdg : decode cc pc = .ok (.invokevirtual index, 3)) (hf : cells + rm.cells ≤ R.cells ∧ slots + rm.slots ≤ R.slots)
    {st1 : List Value} (hst1 : r.toList ++ rest = st1)
    (kk : ∀ (H1 : Heap) (locs1 : List Loc), db_S Γ A H0 L ok cel X' H1 locs1 → W p l e R s m args below meth c H1 locs1 (cells + rm.cells) (slots + rm.slots) Q (F0 m (pc + 3) ls st1)) : W p l e R s m args below meth c H locs cells slots Q (F0 m pc ls st0) := by
  obtain ⟨h, hR, hW⟩ := hS
  refine db_after hW (db_runVNM hC hW (hM h hR) hcl ((hR.1 k i hok).trans (by rw [he])) hw hl hi hs hn hsz hst hr hdg hf) fun v h' H1 locs1 hP hW1 => ?_
  obtain ⟨rfl, hR1⟩ := hP
  subst hst1
  exact kk H1 locs1 ⟨h', hR1, hW1⟩
end DBC
