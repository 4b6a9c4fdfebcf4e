/-! making cells -/
theorem db_ss {h : db_Mem} {a : Nat} {x : va_E} : db_set h a x a = some x := if_pos rfl
theorem db_sn {h : db_Mem} {a q : Nat} {x : va_E} (hq : q ≠ a) : db_set h a x q = h q := if_neg hq
def db_rc (f l cl sl : Nat) : Room := { frames := f, cells := cl, slots := sl, locals := l }
def db_QN (P : Option Value → db_Mem → Nat → Prop) (Γ : db_G) (A : Nat → Prop) : Array Value → State → Outcome → State → Prop := fun _ st oc t => (∃ (v : Option Value) (h' : db_Mem), oc = .returned v ∧ P v h' t.heap.size ∧ db_Hp Γ h' t.heap ∧ ∀ (a : Nat) (x : va_E), h' a = some x → A a) ∧ va_F A st t
/-- a method that makes cells: from memory h in a heap of sz cells -/
def db_N (l : Launch) (Γ : db_G) (y : MethodName) (cc : ByteArray) (maxL : Nat) (ret : Option FieldType) (rm : Room) (av : List Value) (h : db_Mem) (sz : Nat) (P : Option Value → db_Mem → Nat → Prop) : Prop :=
  Met l y (db_Cd y cc maxL ret) rm (db_Pre Γ av h sz) (db_QN P Γ (db_A h sz)) rm.cells rm.slots (db_A h sz)
theorem db_introN {l : Launch} {Γ : db_G} {y : MethodName} {cc : ByteArray} {maxL : Nat} {ret : Option FieldType} {rm : Room} {av : List Value} {h : db_Mem} {sz : Nat} {P : Option Value → db_Mem → Nat → Prop} (hy : plainName y.cls = true) (hlen : (lg_sl av).length ≤ maxL)
    (body : ∀ (p : Program) (e : Env) (s : State) (m : MethodId) (args : Array Value) (below : List Frame) (meth : Method) (c : Code) (A : Nat → Prop) (Q : State → Prop) (ls : Array Slot), db_Cx p s m args meth c Γ y.cls cc maxL ret → meth.name = y.name → s.heap.size = sz → db_W Γ A s.heap h s.heap [] → lv_has ls maxL (lv_args 0 av) →
      (∀ (H : Heap) (locs : List Loc) (h1 : db_Mem) (Q' : Option Value), db_W Γ A s.heap h1 H locs → P Q' h1 H.size → ∀ t : State, t.heap = H → db_QN P Γ A args s (.returned Q') t) →
      (∀ t, MQ below (db_QN P Γ A) args s rm.cells rm.slots A t → Q t) →
      W p l e rm s m args below meth c s.heap [] 0 0 Q (F0 m 0 ls [])) : db_N l Γ y cc maxL ret rm av h sz P := by
  refine Met.ofW (cc := cc) (maxL := maxL) (ret := ret) hy rfl ?_
  intro p e s m args below meth c s₁ B hml hv
  obtain ⟨rfl, hsz, hK, hP⟩ := hv
  have hts := atoms_spec (ws := db_Cd y cc maxL ret) B.pre
  subst hsz
  have hl := lv_entry av (n := maxL) hlen
  rw [lg_entry_eq]
  exact body p e s m _ below meth c (db_A h s.heap.size) _ _ ⟨B.exec, B.bytes, hml, B.returns, B.notSynchronized, findClass_of_methodNamed B.named, fun w hw => hts w (List.mem_cons_of_mem _ hw), hK⟩ (name_of_methodNamed B.named B.method).1 rfl
    ⟨hP, fun a x hx => Or.inl (by rw [hx]; simp), va_S.rf, fun q hq => Or.inr hq⟩ hl (fun H locs h1 v hW hP1 t ht => ⟨⟨v, h1, rfl, by rw [ht]; exact hP1, by rw [ht]; exact hW.1, hW.2.1⟩, hW.2.2.1.F ht⟩) (fun t ht => ht)
theorem W.mono {p : Program} {l : Launch} {e : Env} {R : Room} {s : State} {m : MethodId} {args : Array Value} {below : List Frame} {meth : Method} {c : Code} {H : Heap} {locs : List Loc} {cells slots : Nat} {Q Q' : State → Prop} {g : JFrame} (h : ∀ t, Q t → Q' t) (k : W p l e R s m args below meth c H locs cells slots Q g) : W p l e R s m args below meth c H locs cells slots Q' g := by
  intro T hT X
  obtain ⟨t, a, b⟩ := k T hT X
  exact ⟨t, a, h t b⟩
section DBN
variable {p : Program} {l : Launch} {e : Env} {R : Room} {s : State} {m : MethodId} {args : Array Value} {below : List Frame} {meth : Method} {c : Code} {H : Heap} {locs : List Loc} {cells slots : Nat} {Q : State → Prop}
variable {cc : ByteArray} {pc nL : Nat} {ls : Array Slot} {rest st0 : List Value} {Γ : db_G} {A : Nat → Prop} {a : Nat} {H0 : Heap} {h : db_Mem} {own : String} {ret0 : Option FieldType}
theorem db_objI (hC : db_Cx p s m args meth c Γ own cc nL ret0) (hsz : ls.size = nL) {idx : Nat} (hl : Cond.methodLink own idx Lib.objectInit ∈ db_gw) (hi : Cond.instanceMethod Lib.objectInit ∈ db_gw) (hc : Cond.code Lib.objectInit ⟨#[0xb1]⟩ 1 none ∈ db_gw) (hf : 1 ≤ R.frames) (hlo : (rest.map fun v => v.category).sum + 12 ≤ R.locals) (hdg : decode cc pc = .ok (.invokespecial idx, 3))
    (kk : W p l e R s m args below meth c H locs cells slots Q (F0 m (pc + 3) ls rest)) : W p l e R s m args below meth c H locs cells slots Q (F0 m pc ls (.ref a :: rest)) := by
  obtain ⟨hx, hb, hml, -, -, hown, hts, hK⟩ := hC
  refine W.objInit hx hb hown (hts _ hl) (hts _ hi) (hts _ hc) rfl (hsz.trans hml.symm) rfl hdg hf ?_ kk
  show 2 * 0 + _ + 12 ≤ _
  omega
theorem db_newR (hexec : p.tables.exec = Jvm.exec) (hb : c.code = cc) (hts : ∀ w ∈ db_gw, w.before args s = true) (hown : s.vm.findClass own = some m.cls) (hK : db_K Γ s) (hw : db_W Γ A H0 h H locs) {ci : Nat} {fs : List Value} {C : String} {T : u_T} {ty : Nat → FieldType} {N index : Nat} (hc : db_cls ci C T ty N)
    (hcl : Cond.classLink own index C ∈ db_gw) (hinst : Cond.instantiable C N ∈ db_gw) (hini : Cond.initialized C ∈ db_gw) (hfs : ∀ j, j < N → defaultValue (ty j) = vp_V fs j) (hcells : cells + 1 ≤ R.cells) (hslots : slots + N ≤ R.slots) (hdg : decode cc pc = .ok (.new index, 3)) {z : Nat} (hz : H.size = z)
    (kk : ∀ H1 : Heap, db_W Γ A H0 (db_set h z (.inr (ci, fs))) H1 locs → h z = none → H1.size = z + 1 → W p l e R s m args below meth c H1 locs (cells + 1) (slots + N) Q (F0 m (pc + 3) ls (.ref z :: rest))) : W p l e R s m args below meth c H locs cells slots Q (F0 m pc ls rest) := by
  subst hz
  obtain ⟨hc1, hin, hty, hnm⟩ := hc
  have hKn := hK.1.1 ci _ hc1
  refine W.newcK hexec hb hown (hts _ hcl) (hts _ hinst) (hts _ hini) rfl hdg hcells hslots hKn.2.1 rfl fun H1 kC hkC e1 z1 o1 => ?_
  obtain ⟨hW1, hn⟩ := hw.push (x' := .inr (ci, fs)) z1 o1 ⟨_, hc1, (u_born ty hts hin hKn hkC e1 hty).to hfs⟩
  exact kk H1 hW1 hn z1
theorem db_newI (hexec : p.tables.exec = Jvm.exec) (hb : c.code = cc) (hts : ∀ w ∈ db_gw, w.before args s = true) (hK : db_K Γ s) (hw : db_W Γ A H0 h H locs) (harr : Cond.arrayClass .int ∈ db_gw) {n : Int32} {k : Nat} (hn : n = nI k) (hk : k ≤ 1000) (hcells : cells + 1 ≤ R.cells) (hslots : slots + k ≤ R.slots) (hdg : decode cc pc = .ok (.newarray .int, 2)) {z : Nat} (hz : H.size = z)
    (kk : ∀ H1 : Heap, db_W Γ A H0 (db_set h z (.inl (Γ.2 0, k, .inl (fun _ => 0)))) H1 locs → h z = none → H1.size = z + 1 → W p l e R s m args below meth c H1 locs (cells + 1) (slots + k) Q (F0 m (pc + 2) ls (.ref z :: rest))) : W p l e R s m args below meth c H locs cells slots Q (F0 m pc ls (.int n :: rest)) := by
  subst hz; subst hn
  refine va_newaK (atype := .int) hexec hb (hts _ harr) rfl hdg rfl (nI_pos (by omega)) (nI_clamp (by omega)) (by show k * 4 ≤ _; omega) hcells hslots rfl fun H1 cA e1 z1 o1 hAr hNm => ?_
  have hcA : cA = Γ.2 0 := Option.some.inj (hNm.symm.trans (hK.1.2 0 _ rfl).2)
  subst hcA
  obtain ⟨hW1, hn⟩ := hw.push (x' := .inl (Γ.2 0, k, .inl (fun _ => 0))) z1 o1 (by show H1[H.size]? = some (vp_cell _ _); rw [vp_cell_i]; exact e1)
  exact kk H1 hW1 hn z1
theorem db_newZ (hexec : p.tables.exec = Jvm.exec) (hb : c.code = cc) (hts : ∀ w ∈ db_gw, w.before args s = true) (hK : db_K Γ s) (hw : db_W Γ A H0 h H locs) (harr : Cond.arrayClass .boolean ∈ db_gw) {n : Int32} {k : Nat} (hn : n = nI k) (hk : k ≤ 1000) (hcells : cells + 1 ≤ R.cells) (hslots : slots + k ≤ R.slots) (hdg : decode cc pc = .ok (.newarray .boolean, 2)) {z : Nat} (hz : H.size = z)
    (kk : ∀ H1 : Heap, db_W Γ A H0 (db_set h z (.inl (Γ.2 1, k, .inl (fun _ => 0)))) H1 locs → h z = none → H1.size = z + 1 → W p l e R s m args below meth c H1 locs (cells + 1) (slots + k) Q (F0 m (pc + 2) ls (.ref z :: rest))) : W p l e R s m args below meth c H locs cells slots Q (F0 m pc ls (.int n :: rest)) := by
  subst hz; subst hn
  refine va_newaK (atype := .boolean) hexec hb (hts _ harr) rfl hdg rfl (nI_pos (by omega)) (nI_clamp (by omega)) (by show k * 1 ≤ _; omega) hcells hslots rfl fun H1 cA e1 z1 o1 hAr hNm => ?_
  have hcA : cA = Γ.2 1 := Option.some.inj (hNm.symm.trans (hK.1.2 1 _ rfl).2)
  subst hcA
  obtain ⟨hW1, hn⟩ := hw.push (x' := .inl (Γ.2 1, k, .inl (fun _ => 0))) z1 o1 (by show H1[H.size]? = some (vp_cell _ _); rw [vp_cell_i]; exact e1)
  exact kk H1 hW1 hn z1
theorem db_newQ (hexec : p.tables.exec = Jvm.exec) (hb : c.code = cc) (hts : ∀ w ∈ db_gw, w.before args s = true) (hown : s.vm.findClass own = some m.cls) (hK : db_K Γ s) (hw : db_W Γ A H0 h H locs) {C : String} {index t0 : Nat} {cT : ClassId} (hcl : Cond.classLink own index C ∈ db_gw) (hao : va_AO C s) (ht : (db_tys Γ)[t0]? = some (cT, .object C)) {n : Int32} {k : Nat} (hn : n = nI k) (hk : k ≤ 1000) (hcells : cells + 1 ≤ R.cells) (hslots : slots + k ≤ R.slots) (hdg : decode cc pc = .ok (.anewarray index, 3)) {z : Nat} (hz : H.size = z)
    (kk : ∀ H1 : Heap, db_W Γ A H0 (db_set h z (.inl (cT, k, .inr (.inr (.inr (.inr (fun _ => none))))))) H1 locs → h z = none → H1.size = z + 1 → W p l e R s m args below meth c H1 locs (cells + 1) (slots + k) Q (F0 m (pc + 3) ls (.ref z :: rest))) : W p l e R s m args below meth c H locs cells slots Q (F0 m pc ls (.int n :: rest)) := by
  subst hz; subst hn
  have hcl1 : (nI k).toNatClampNeg = k := nI_clamp (by omega)
  refine W.anew hexec hb hown (hts _ hcl) (va_AO.use hao) rfl hdg rfl (nI_pos (by omega)) (by rw [hcl1]; omega) hcells (by rw [hcl1]; exact hslots) fun cA kA comp f1 f2 f3 f4 => ?_
  obtain ⟨kA', comp', -, -, -, f5⟩ := (hK.1.2 t0 _ ht).2
  have hcA : cA = cT := Option.some.inj (f1.symm.trans f5)
  subst hcA
  rw [hcl1]
  generalize hH1 : H.push ({ cls := cA, slots := Array.replicate k .null, vm := .none } : Cell) = H1
  have z1 : H1.size = H.size + 1 := by rw [← hH1, Array.size_push]
  have e1 : H1[H.size]? = some (arrV cA k (fun _ => .null)) := by rw [← hH1, Array.getElem?_push_size, ← arrV_new]
  have o1 : ∀ q : Nat, q < H.size → H1[q]? = H[q]? := fun q hq => by rw [← hH1, Array.getElem?_push, if_neg (Nat.ne_of_lt hq)]
  obtain ⟨hW1, hn⟩ := hw.push (x' := .inl (cA, k, .inr (.inr (.inr (.inr (fun _ => none)))))) z1 o1 (by show H1[H.size]? = some (vp_cell _ _); rw [vp_cell_q]; exact e1)
  exact kk H1 hW1 hn z1
/-- behind a run of a method that makes cells -/
theorem db_afterN {P : Option Value → db_Mem → Nat → Prop} {mc ms : Nat} {g : JFrame} {a1 : Array Value} (hW : db_W Γ A H0 h H locs)
    (hr : va_Run p l e R s m args below meth c H locs cells slots mc ms g rest (db_QN P Γ (db_A h H.size) a1) (db_A h H.size))
    (kk : ∀ (v : Option Value) (h' : db_Mem) (H1 : Heap) (locs1 : List Loc), P v h' H1.size → db_W Γ A H0 h' H1 locs1 → W p l e R s m args below meth c H1 locs1 (cells + mc) (slots + ms) Q { g with pc := g.pc + 3, stack := v.toList ++ rest }) :
    W p l e R s m args below meth c H locs cells slots Q g := by
  intro T hT X
  obtain ⟨v, st₀, t, T', L, h0, X', hL, e1, e2, ⟨⟨v', h', hv, hP, hH, hD⟩, hz, hk⟩, st⟩ := hr T hT X
  cases hv
  have hA : ∀ q : Nat, db_A h H.size q → A q := by
    intro q hq
    rcases hq with hq | hq
    · cases e9 : h q with
      | none => exact absurd e9 hq
      | some x => exact hW.2.1 q x e9
    · exact hW.2.2.2 q (Nat.le_trans hW.2.2.1.1 hq)
  rw [h0] at hz hk
  obtain ⟨t2, a2, b2⟩ := kk v h' T'.heap (locs ++ L) (by rw [e1]; exact hP) ⟨by rw [e1]; exact hH, fun a x hx => hA a (hD a x hx), ⟨Nat.le_trans hW.2.2.1.1 (by rw [e1]; exact hz), fun q h1 h2 => by rw [e1, hk q (Nat.lt_of_lt_of_le h1 hW.2.2.1.1) (fun z => h2 (hA q z))]; exact hW.2.2.1.2.1 q h1 h2, fun q hq => by
      rcases List.mem_append.mp hq with h | h
      · exact hW.2.2.1.2.2 q h
      · exact hA _ (hL q h)⟩, hW.2.2.2⟩ T' rfl X'
  exact ⟨t2, st t2 a2, b2⟩
theorem db_cIN {y : MethodName} {cc1 : ByteArray} {maxL1 n index b : Nat} {rm : Room} {As : List Value} {P : Option Value → db_Mem → Nat → Prop} {host : String} {z : Nat}
    (hC : db_Cx p s m args meth c Γ own cc nL ret0) (hW : db_W Γ A H0 h H locs) (hz : H.size = z) (hM : db_N l Γ y cc1 maxL1 none rm (.ref b :: As) h z P)
    (hw : db_cw R y cc1 maxL1 none rm n) (hl : Cond.methodLinkNest own index y host ∈ lw_tbl) (hi : Cond.instanceMethod y ∈ db_gw) (hy1 : y.name = "<init>")
    (hn : As.length = n) (hsz : ls.size = nL) (hst : st0 = As.reverse ++ .ref b :: rest) (hr : (rest.map fun v => v.category).sum ≤ 8) (hdg : decode cc pc = .ok (.invokespecial index, 3)) (hf : cells + rm.cells ≤ R.cells ∧ slots + rm.slots ≤ R.slots)
    (kk : ∀ (v : Option Value) (h' : db_Mem) (H1 : Heap) (locs1 : List Loc), P v h' H1.size → db_W Γ A H0 h' H1 locs1 → W p l e R s m args below meth c H1 locs1 (cells + rm.cells) (slots + rm.slots) Q (F0 m (pc + 3) ls (v.toList ++ rest))) : W p l e R s m args below meth c H locs cells slots Q (F0 m pc ls st0) := by
  subst hz
  obtain ⟨hx, hbb, hml, -, -, hown, hts, hK⟩ := hC
  exact db_afterN hW (va_runIN ⟨hx, hbb, hml, hown, hts⟩ hM ⟨db_cN hts hK hw hl, hy1, hts _ hi⟩ (db_preS hK hW) rfl hn hsz hst (lv_room hr) hdg hf) kk
theorem db_cIO {y : MethodName} {cc1 : ByteArray} {maxL1 n index b : Nat} {rm : Room} {As : List Value} {P : Option Value → db_Mem → Nat → Prop} {z : Nat}
    (hC : db_Cx p s m args meth c Γ own cc nL ret0) (hW : db_W Γ A H0 h H locs) (hz : H.size = z) (hM : db_N l Γ y cc1 maxL1 none rm (.ref b :: As) h z P)
    (hw : db_cw R y cc1 maxL1 none rm n) (hl : Cond.methodLink own index y ∈ db_gw) (hi : Cond.instanceMethod y ∈ db_gw) (hy1 : y.name = "<init>")
    (hn : As.length = n) (hsz : ls.size = nL) (hst : st0 = As.reverse ++ .ref b :: rest) (hr : (rest.map fun v => v.category).sum ≤ 8) (hdg : decode cc pc = .ok (.invokespecial index, 3)) (hf : cells + rm.cells ≤ R.cells ∧ slots + rm.slots ≤ R.slots)
    (kk : ∀ (v : Option Value) (h' : db_Mem) (H1 : Heap) (locs1 : List Loc), P v h' H1.size → db_W Γ A H0 h' H1 locs1 → W p l e R s m args below meth c H1 locs1 (cells + rm.cells) (slots + rm.slots) Q (F0 m (pc + 3) ls (v.toList ++ rest))) : W p l e R s m args below meth c H locs cells slots Q (F0 m pc ls st0) := by
  subst hz
  obtain ⟨hx, hbb, hml, -, -, hown, hts, hK⟩ := hC
  exact db_afterN hW (va_runI ⟨hx, hbb, hml, hown, hts⟩ hM ⟨db_cB hts hw hl, hy1, hts _ hi⟩ (db_preS hK hW) rfl hn hsz hst (lv_room hr) hdg hf) kk
theorem db_cSO {y : MethodName} {cc1 : ByteArray} {maxL1 n index : Nat} {ret1 : Option FieldType} {rm : Room} {As : List Value} {P : Option Value → db_Mem → Nat → Prop} {z : Nat}
    (hC : db_Cx p s m args meth c Γ own cc nL ret0) (hW : db_W Γ A H0 h H locs) (hz : H.size = z) (hM : db_N l Γ y cc1 maxL1 ret1 rm As h z P)
    (hw : db_cw R y cc1 maxL1 ret1 rm n) (hl : Cond.methodLink own index y ∈ db_gw) (hi : Cond.static y ∈ db_gw)
    (hn : As.length = n) (hsz : ls.size = nL) (hst : st0 = As.reverse ++ rest) (hr : (rest.map fun v => v.category).sum ≤ 8) (hdg : decode cc pc = .ok (.invokestatic index, 3)) (hf : cells + rm.cells ≤ R.cells ∧ slots + rm.slots ≤ R.slots)
    (kk : ∀ (v : Option Value) (h' : db_Mem) (H1 : Heap) (locs1 : List Loc), P v h' H1.size → db_W Γ A H0 h' H1 locs1 → W p l e R s m args below meth c H1 locs1 (cells + rm.cells) (slots + rm.slots) Q (F0 m (pc + 3) ls (v.toList ++ rest))) : W p l e R s m args below meth c H locs cells slots Q (F0 m pc ls st0) := by
  subst hz
  obtain ⟨hx, hbb, hml, -, -, hown, hts, hK⟩ := hC
  exact db_afterN hW (va_runS ⟨hx, hbb, hml, hown, hts⟩ hM ⟨db_cB hts hw hl, hts _ hi⟩ (db_preS hK hW) rfl hn hsz hst (lv_room hr) hdg hf) kk
theorem db_putS (hexec : p.tables.exec = Jvm.exec) (hb : c.code = cc) (hts : ∀ w ∈ db_gw, w.before args s = true) {own : String} (hown : s.vm.findClass own = some m.cls) (hK : db_K Γ s) (hw : db_W Γ A H0 h H locs) {ci : Nat} {fs : List Value} (ha : h a = some (.inr (ci, fs)))
    {C : String} {T : u_T} {ty : Nat → FieldType} {N index : Nat} (hc : db_cls ci C T ty N) (k : Nat) (hk : k < N) (hlink : (Cond.fieldLink own index (T k).1 (T k).2.1 (T k).2.2.1).before args s = true) (hfin : (T k).2.2.2 = false) {v : Value} (hn : narrow (ty k) v = v) (hfit : fits (ty k) v = true) (hl : k < fs.length) (hdg : decode cc pc = .ok (.putfield index, 3))
    (kk : ∀ (H1 : Heap) (locs1 : List Loc), H1.size = H.size → db_W Γ A H0 (db_set h a (.inr (ci, fs.set k v))) H1 locs1 → W p l e R s m args below meth c H1 locs1 cells slots Q (F0 m (pc + 3) ls rest)) : W p l e R s m args below meth c H locs cells slots Q (F0 m pc ls (v :: .ref a :: rest)) := by
  obtain ⟨hc1, hin, hty, hnm⟩ := hc
  have hap := va_apart (own := own) hts hin ty hty hnm hK.1 hc1
  obtain ⟨r, h1, cell, q1, q2, q3, q4⟩ := hw.1 _ _ ha
  have hr : r = (C, T, N) := Option.some.inj (h1.symm.trans hc1)
  subst hr
  obtain ⟨hS, hfc, kC, hkC, hkind⟩ := hK.1.1 ci _ hc1
  obtain ⟨cf, kf, fi, f, hi, hsl⟩ := hS k hk
  have hlay := hts _ (hin _ (u_in_lay hk))
  unfold u_lay at hlay
  rw [if_neg (by rw [hfin]; decide)] at hlay
  have hst := (u_facts hfc hkC (u_lays hts hin hk) hi).1
  have h6 := u_store hfc hkC hkind hlay hi (hty k hk) hn hfit
  refine W.putK hexec hb (f := f) ⟨hown, hlink, ⟨_, _, _, hi⟩, hst⟩ (by rw [q2]; exact h6) q1 q3 (by rw [hsl]; exact k2_hasslot (q4 k hk)) rfl rfl hdg fun H' e1 e2 e3 => ?_
  rw [hsl] at e1 ⊢
  exact kk H' _ e2 (hw.put ha e2 e3 ⟨_, hc1, t_OB.to (V := updV (vp_V fs) k v) ⟨_, e1, q2, q3, t_set q4 hap hk v⟩ (fun j _ => vp_updV_set hl v j)⟩)
theorem db_putFS (hexec : p.tables.exec = Jvm.exec) (hb : c.code = cc) (hts : ∀ w ∈ db_gw, w.before args s = true) {own : String} (hown : s.vm.findClass own = some m.cls) (hK : db_K Γ s) (hw : db_W Γ A H0 h H locs) {ci : Nat} {fs : List Value} (ha : h a = some (.inr (ci, fs)))
    {C : String} {T : u_T} {ty : Nat → FieldType} {N index : Nat} (hc : db_cls ci C T ty N) (k : Nat) (hk : k < N) (hlink : (Cond.fieldLink own index (T k).1 (T k).2.1 (T k).2.2.1).before args s = true) (hfin : (T k).2.2.2 = true) (hin2 : meth.name = "<init>") (hdecl : (T k).1 = own) {v : Value} (hn : narrow (ty k) v = v) (hfit : fits (ty k) v = true) (hl : k < fs.length) (hdg : decode cc pc = .ok (.putfield index, 3))
    (kk : ∀ (H1 : Heap) (locs1 : List Loc), H1.size = H.size → db_W Γ A H0 (db_set h a (.inr (ci, fs.set k v))) H1 locs1 → W p l e R s m args below meth c H1 locs1 cells slots Q (F0 m (pc + 3) ls rest)) : W p l e R s m args below meth c H locs cells slots Q (F0 m pc ls (v :: .ref a :: rest)) := by
  obtain ⟨hc1, hin, hty, hnm⟩ := hc
  have hap := va_apart (own := own) hts hin ty hty hnm hK.1 hc1
  obtain ⟨r, h1, cell, q1, q2, q3, q4⟩ := hw.1 _ _ ha
  have hr : r = (C, T, N) := Option.some.inj (h1.symm.trans hc1)
  subst hr
  obtain ⟨hS, hfc, kC, hkC, hkind⟩ := hK.1.1 ci _ hc1
  obtain ⟨cf, kf, fi, f, hi, hsl⟩ := hS k hk
  have hlay := hts _ (hin _ (u_in_lay hk))
  unfold u_lay at hlay
  rw [if_pos hfin] at hlay
  have hst := (u_facts hfc hkC (u_lays hts hin hk) hi).1
  have hcf : m.cls = cf := by
    obtain ⟨_, _, c', _, _, _, -, -, hf', -, -, -, hown2, -⟩ := Cond.laysFinal_spec hlay
    have e1 : c' = cf := by have := hi.symm.trans hf'; simp at this; exact this.1.symm
    rw [hdecl] at hown2
    rw [← e1]; exact Option.some.inj (hown.symm.trans hown2)
  have h6 := u_fits hfc hkC hkind (Or.inr hlay) hi (hty k hk) hn hfit
  refine W.putFinK hexec hb hown hlink hi hst hcf hin2 (by rw [q2]; exact h6) q1 q3 (by rw [hsl]; exact k2_hasslot (q4 k hk)) rfl rfl hdg fun H' e1 e2 e3 => ?_
  rw [hsl] at e1 ⊢
  exact kk H' _ e2 (hw.put ha e2 e3 ⟨_, hc1, t_OB.to (V := updV (vp_V fs) k v) ⟨_, e1, q2, q3, t_set q4 hap hk v⟩ (fun j _ => vp_updV_set hl v j)⟩)
theorem db_istS (hexec : p.tables.exec = Jvm.exec) (hb : c.code = cc) (hK : db_K Γ s) (hw : db_W Γ A H0 h H locs) {n j : Nat} {f : Nat → Int32} (ha : h a = some (.inl (Γ.2 0, n, .inl f))) {i x : Int32} (hi : i = nI j) (hj : j < n) (hn : n < 2 ^ 31) (hdg : decode cc pc = .ok (.iastore, 1))
    (kk : ∀ (H1 : Heap) (locs1 : List Loc), H1.size = H.size → db_W Γ A H0 (db_set h a (.inl (Γ.2 0, n, .inl (upd f j x)))) H1 locs1 → W p l e R s m args below meth c H1 locs1 cells slots Q (F0 m (pc + 1) ls rest)) : W p l e R s m args below meth c H locs cells slots Q (F0 m pc ls (.int x :: .int i :: .ref a :: rest)) := by
  subst hi
  refine W.iast hexec hb (hw.1 _ _ ha) ((hK.1.2 0 _ rfl).1 n (fun j => .int (f j))) (fun q => by cases q) (by show ¬ (nI j < 0 ∨ (arrV _ _ _).slots.size ≤ _); rw [arrV_size]; exact vp_in_nI hj hn) rfl rfl hdg fun H1 e1 z oq => ?_
  refine kk H1 _ z (hw.put ha z oq ?_)
  show H1[a]? = some (vp_cell _ _)
  rw [e1]
  rw [vp_cell_i, vp_cell_i, arrV_store, nI_clamp (by omega)]
  congr 2
  funext q
  by_cases hq : q = j
  · subst hq
    simp [updV, upd]
  · simp [updV, upd, hq]
theorem db_astS (hexec : p.tables.exec = Jvm.exec) (hb : c.code = cc) (hK : db_K Γ s) (hw : db_W Γ A H0 h H locs) {n j ci v : Nat} {r : vw_C} {vs : List Value} {cA : ClassId} (t0 : Nat) (ht : (db_tys Γ)[t0]? = some (cA, .object r.1)) (hc : vwCl[ci]? = some r) {f : Nat → Option Nat} (ha : h a = some (.inl (cA, n, .inr (.inr (.inr (.inr f)))))) (hv : h v = some (.inr (ci, vs))) {i : Int32} (hi : i = nI j) (hj : j < n) (hn : n < 2 ^ 31) (hdg : decode cc pc = .ok (.aastore, 1))
    (kk : ∀ (H1 : Heap) (locs1 : List Loc), H1.size = H.size → db_W Γ A H0 (db_set h a (.inl (cA, n, .inr (.inr (.inr (.inr (va_up f j (some v)))))))) H1 locs1 → W p l e R s m args below meth c H1 locs1 cells slots Q (F0 m (pc + 1) ls rest)) : W p l e R s m args below meth c H locs cells slots Q (F0 m pc ls (.ref v :: .int i :: .ref a :: rest)) := by
  subst hi
  obtain ⟨r', hr', cellV, g1, g2, g3, -⟩ := hw.1 _ _ hv
  have hcls := (hK.1.1 ci r hc).2
  obtain ⟨kA, comp, k1, k2, k3, -⟩ := (hK.1.2 t0 _ ht).2
  have hcomp : comp = Γ.1.1 ci := Option.some.inj (k3.symm.trans hcls.1)
  subst hcomp
  obtain ⟨kC, hkC, -⟩ := hcls.2
  refine W.aast hexec hb (hw.1 _ _ ha) (fun q h => by cases h) (fun h => by cases h) k1 k2 rfl hkC ⟨nI_pos (by omega), by show _ < (arrV _ _ _).slots.size; rw [arrV_size, nI_clamp (by omega)]; exact hj⟩ g1 (fun q h => by rw [g3] at h; cases h) (by rw [g2]; exact hkC) (by rw [g2]; exact va_assign hcls) rfl rfl hdg fun H1 e1 z oq => ?_
  refine kk H1 _ z (hw.put ha z oq ?_)
  show H1[a]? = some (vp_cell _ _)
  rw [e1]
  rw [vp_cell_q, vp_cell_q, arrV_store, nI_clamp (by omega)]
  congr 2
  funext q
  by_cases hq : q = j
  · subst hq
    simp [updV, va_up, va_rf]
  · simp [updV, va_up, hq]
end DBN
theorem db_W.size {Γ : db_G} {A : Nat → Prop} {H0 H H1 : Heap} {h h1 : db_Mem} {locs locs1 : List Loc} (_ : db_W Γ A H0 h H locs) (_ : db_W Γ A H0 h1 H1 locs1) : True := trivial
