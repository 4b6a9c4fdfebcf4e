/-! a world of cells (k, i): addresses L k i, what is there: ok k i, contents: cel k i (X k i) -/
def db_up (X : db_X) (k i f : Nat) (v : Int32) : db_X := fun k' i' f' => if k' = k ∧ i' = i ∧ f' = f then v else X k' i' f'
def db_uf (x : Nat → Int32) (f : Nat) (v : Int32) : Nat → Int32 := fun j => if j = f then v else x j
theorem db_up_self {X : db_X} {k i f : Nat} {v : Int32} : db_up X k i f v k i = db_uf (X k i) f v := by funext j; simp [db_up, db_uf]
theorem db_up_ne {X : db_X} {k i f k' i' : Nat} {v : Int32} (h : ¬ (k' = k ∧ i' = i)) : db_up X k i f v k' i' = X k' i' := by
  funext j
  simp only [db_up]
  rw [if_neg]
  exact fun q => h ⟨q.1, q.2.1⟩
theorem db_upd_uf {f : Nat → Int32} {j : Nat} {v : Int32} : upd f j v = db_uf f j v := by
  funext q
  simp [upd, db_uf]
def db_R (L : Nat → Nat → Nat) (ok : Nat → Nat → Prop) (cel : Nat → Nat → (Nat → Int32) → va_E) (X : db_X) (h : db_Mem) : Prop :=
  (∀ k i, ok k i → h (L k i) = some (cel k i (X k i))) ∧ ∀ k i k' i', ok k i → ok k' i' → L k i = L k' i' → k = k' ∧ i = i'
def db_S (Γ : db_G) (A : Nat → Prop) (H0 : Heap) (L : Nat → Nat → Nat) (ok : Nat → Nat → Prop) (cel : Nat → Nat → (Nat → Int32) → va_E) (X : db_X) (H : Heap) (locs : List Loc) : Prop :=
  ∃ h : db_Mem, db_R L ok cel X h ∧ db_W Γ A H0 h H locs
theorem db_R.set {L : Nat → Nat → Nat} {ok : Nat → Nat → Prop} {cel : Nat → Nat → (Nat → Int32) → va_E} {X : db_X} {h : db_Mem} (hR : db_R L ok cel X h) {k i f : Nat} {v : Int32} (hok : ok k i) {x : va_E} (hx : cel k i (db_uf (X k i) f v) = x) :
    db_R L ok cel (db_up X k i f v) (db_set h (L k i) x) := by
  refine ⟨fun k' i' h' => ?_, hR.2⟩
  unfold db_set
  by_cases e : k' = k ∧ i' = i
  · obtain ⟨rfl, rfl⟩ := e
    rw [if_pos rfl, db_up_self, hx]
  · rw [if_neg (fun q => e (hR.2 _ _ _ _ h' hok q)), db_up_ne e]
    exact hR.1 k' i' h'
/-! what is owed of a method -/
def db_Cd (y : MethodName) (cc : ByteArray) (maxL : Nat) (ret : Option FieldType) : List Cond := .code y cc maxL ret :: db_gw
def db_Pre (Γ : db_G) (av : List Value) (h : db_Mem) (sz : Nat) : Array Value → State → Prop := va_Pc av (fun U => U.heap.size = sz ∧ db_K Γ U ∧ db_Hp Γ h U.heap)
def db_Q (P : Option Value → db_Mem → Prop) (Γ : db_G) (A : Nat → Prop) : Array Value → State → Outcome → State → Prop := fun _ st oc t => (∃ (v : Option Value) (h' : db_Mem), oc = .returned v ∧ P v h' ∧ db_Hp Γ h' t.heap ∧ ∀ (a : Nat) (x : va_E), h' a = some x → A a) ∧ va_F A st t
/-- the method y, from a heap that holds h, comes back with v and h' as P says -/
def db_M (l : Launch) (Γ : db_G) (y : MethodName) (cc : ByteArray) (maxL : Nat) (ret : Option FieldType) (rm : Room) (av : List Value) (h : db_Mem) (P : Option Value → db_Mem → Prop) : Prop :=
  ∀ sz : Nat, Met l y (db_Cd y cc maxL ret) rm (db_Pre Γ av h sz) (db_Q P Γ (db_A h sz)) rm.cells rm.slots (db_A h sz)
/-- the same over a world: it comes back with r, and the world holds X' -/
def db_C (l : Launch) (Γ : db_G) (y : MethodName) (cc : ByteArray) (maxL : Nat) (ret : Option FieldType) (rm : Room) (av : List Value) (L : Nat → Nat → Nat) (ok : Nat → Nat → Prop) (cel : Nat → Nat → (Nat → Int32) → va_E) (X : db_X) (r : Option Value) (X' : db_X) : Prop :=
  ∀ h : db_Mem, db_R L ok cel X h → db_M l Γ y cc maxL ret rm av h (fun v h' => v = r ∧ db_R L ok cel X' h')
/-- what holds within a method's body -/
def db_Cx (p : Program) (s : State) (m : MethodId) (args : Array Value) (meth : Method) (c : Code) (Γ : db_G) (own : String) (cc : ByteArray) (maxL : Nat) (ret : Option FieldType) : Prop :=
  p.tables.exec = Jvm.exec ∧ c.code = cc ∧ c.maxLocals = maxL ∧ meth.sig.returnType = ret ∧ meth.locks = false ∧ s.vm.findClass own = some m.cls ∧ (∀ w ∈ db_gw, w.before args s = true) ∧ db_K Γ s
theorem db_blind {Γ : db_G} {av : List Value} {h : db_Mem} {sz : Nat} : FrameBlind (db_Pre Γ av h sz) := by
  intro a U g mk q
  obtain ⟨q0, q1, qK, qP⟩ := q
  exact ⟨q0, q1, db_K.same (s := U) (U := U.calling g mk a) rfl qK, qP⟩
theorem db_good {y : MethodName} {cc : ByteArray} {maxL : Nat} {ret : Option FieldType} (hc : Cond.code y cc maxL ret ∈ db_gw) : GoodIn db_gw (db_Cd y cc maxL ret) := by
  intro w hw
  rcases List.mem_cons.mp hw with rfl | h
  · exact ⟨hc, good_of_word (List.mem_filter.mp hc).2⟩
  · exact ⟨h, good_of_word (List.mem_filter.mp h).2⟩
theorem db_introM {l : Launch} {Γ : db_G} {y : MethodName} {cc : ByteArray} {maxL : Nat} {ret : Option FieldType} {rm : Room} {av : List Value} {h : db_Mem} {P : Option Value → db_Mem → Prop} (hy : plainName y.cls = true) (hlen : (lg_sl av).length ≤ maxL)
    (body : ∀ (p : Program) (e : Env) (s : State) (m : MethodId) (below : List Frame) (meth : Method) (c : Code) (A : Nat → Prop) (ls : Array Slot), db_Cx p s m av.toArray meth c Γ y.cls cc maxL ret → meth.name = y.name → db_W Γ A s.heap h s.heap [] → lv_has ls maxL (lv_args 0 av) →
      W p l e rm s m av.toArray below meth c s.heap [] 0 0 (MQ below (db_Q P Γ A) av.toArray s rm.cells rm.slots A) (F0 m 0 ls [])) : db_M l Γ y cc maxL ret rm av h P := by
  intro sz
  refine Met.ofW (cc := cc) (maxL := maxL) (ret := ret) hy rfl ?_
  intro p e s m args below meth c s₁ B hml hv
  obtain ⟨rfl, hsz, hK, hP⟩ := hv
  have hts := atoms_spec (ws := db_Cd y cc maxL ret) B.pre
  subst hsz
  have hl := lv_entry av (n := maxL) hlen
  rw [lg_entry_eq]
  exact body p e s m below meth c (db_A h s.heap.size) _ ⟨B.exec, B.bytes, hml, B.returns, B.notSynchronized, findClass_of_methodNamed B.named, fun w hw => hts w (List.mem_cons_of_mem _ hw), hK⟩ (name_of_methodNamed B.named B.method).1
    ⟨hP, fun a x hx => Or.inl (by rw [hx]; simp), va_S.rf, fun q hq => Or.inr hq⟩ hl
theorem db_intro {l : Launch} {Γ : db_G} {y : MethodName} {cc : ByteArray} {maxL : Nat} {ret : Option FieldType} {rm : Room} {av : List Value} {L : Nat → Nat → Nat} {ok : Nat → Nat → Prop} {cel : Nat → Nat → (Nat → Int32) → va_E} {X X' : db_X} {r : Option Value} (hy : plainName y.cls = true) (hlen : (lg_sl av).length ≤ maxL)
    (body : ∀ (p : Program) (e : Env) (s : State) (m : MethodId) (below : List Frame) (meth : Method) (c : Code) (A : Nat → Prop) (ls : Array Slot), db_Cx p s m av.toArray meth c Γ y.cls cc maxL ret → db_S Γ A s.heap L ok cel X s.heap [] → lv_has ls maxL (lv_args 0 av) →
      W p l e rm s m av.toArray below meth c s.heap [] 0 0 (MQ below (db_Q (fun v h' => v = r ∧ db_R L ok cel X' h') Γ A) av.toArray s rm.cells rm.slots A) (F0 m 0 ls [])) : db_C l Γ y cc maxL ret rm av L ok cel X r X' :=
  fun h hR => db_introM hy hlen fun p e s m below meth c A ls hC _ hW hl => body p e s m below meth c A ls hC ⟨h, hR, hW⟩ hl
section DBW
variable {p : Program} {l : Launch} {e : Env} {R : Room} {s : State} {m : MethodId} {args : Array Value} {below : List Frame} {meth : Method} {c : Code} {H : Heap} {locs : List Loc} {cells slots : Nat} {Q : State → Prop}
variable {cc : ByteArray} {pc : Nat} {ls : Array Slot} {rest : List Value} {Γ : db_G} {A : Nat → Prop} {H0 : Heap} {L : Nat → Nat → Nat} {ok : Nat → Nat → Prop} {cel : Nat → Nat → (Nat → Int32) → va_E} {X : db_X}
theorem db_get (hexec : p.tables.exec = Jvm.exec) (hb : c.code = cc) (hts : ∀ w ∈ db_gw, w.before args s = true) {own : String} (hown : s.vm.findClass own = some m.cls) (hK : db_K Γ s) (hS : db_S Γ A H0 L ok cel X H locs) (k i : Nat) (hok : ok k i) {ci : Nat} {fs : List Value} (he : cel k i (X k i) = .inr (ci, fs))
    {C : String} {T : u_T} {ty : Nat → FieldType} {N index : Nat} (hc : db_cls ci C T ty N) (f : Nat) (hf : f < N) (hlink : Cond.fieldLink own index (T f).1 (T f).2.1 (T f).2.2.1 ∈ db_gw) {v : Value} (hv : fs[f]? = some v) (hdg : decode cc pc = .ok (.getfield index, 3))
    (kk : W p l e R s m args below meth c H locs cells slots Q (F0 m (pc + 3) ls (v :: rest))) : W p l e R s m args below meth c H locs cells slots Q (F0 m pc ls (.ref (L k i) :: rest)) := by
  obtain ⟨h, hR, hW⟩ := hS
  exact db_getR hexec hb hts hown hK hW.1 ((hR.1 k i hok).trans (by rw [he])) hc f hf (hts _ hlink) hv hdg kk
theorem db_getN (hexec : p.tables.exec = Jvm.exec) (hb : c.code = cc) (hts : ∀ w ∈ db_gw, w.before args s = true) {own host : String} (hown : s.vm.findClass own = some m.cls) (hK : db_K Γ s) (hS : db_S Γ A H0 L ok cel X H locs) (k i : Nat) (hok : ok k i) {ci : Nat} {fs : List Value} (he : cel k i (X k i) = .inr (ci, fs))
    {C : String} {T : u_T} {ty : Nat → FieldType} {N index : Nat} (hc : db_cls ci C T ty N) (f : Nat) (hf : f < N) (hlink : Cond.fieldLinkNest own index (T f).1 (T f).2.1 (T f).2.2.1 host ∈ lw_tbl) {v : Value} (hv : fs[f]? = some v) (hdg : decode cc pc = .ok (.getfield index, 3))
    (kk : W p l e R s m args below meth c H locs cells slots Q (F0 m (pc + 3) ls (v :: rest))) : W p l e R s m args below meth c H locs cells slots Q (F0 m pc ls (.ref (L k i) :: rest)) := by
  obtain ⟨h, hR, hW⟩ := hS
  exact db_getNR hexec hb hts hown hK hW.1 ((hR.1 k i hok).trans (by rw [he])) hc f hf hlink hv hdg kk
theorem db_put (hexec : p.tables.exec = Jvm.exec) (hb : c.code = cc) (hts : ∀ w ∈ db_gw, w.before args s = true) {own : String} (hown : s.vm.findClass own = some m.cls) (hK : db_K Γ s) (hS : db_S Γ A H0 L ok cel X H locs) (k i : Nat) (hok : ok k i) {ci : Nat} {fs : List Value} (he : cel k i (X k i) = .inr (ci, fs))
    {C : String} {T : u_T} {ty : Nat → FieldType} {N index : Nat} (hc : db_cls ci C T ty N) (f : Nat) (hf : f < N) (hlink : Cond.fieldLink own index (T f).1 (T f).2.1 (T f).2.2.1 ∈ db_gw) (hfin : (T f).2.2.2 = false) {v : Int32} (hn : narrow (ty f) (.int v) = .int v) (hfit : fits (ty f) (.int v) = true) (hl : f < fs.length) (he2 : cel k i (db_uf (X k i) f v) = .inr (ci, fs.set f (.int v))) (hdg : decode cc pc = .ok (.putfield index, 3))
    (kk : ∀ (H1 : Heap) (locs1 : List Loc), db_S Γ A H0 L ok cel (db_up X k i f v) H1 locs1 → W p l e R s m args below meth c H1 locs1 cells slots Q (F0 m (pc + 3) ls rest)) : W p l e R s m args below meth c H locs cells slots Q (F0 m pc ls (.int v :: .ref (L k i) :: rest)) := by
  obtain ⟨h, hR, hW⟩ := hS
  exact db_putR hexec hb hts hown hK hW ((hR.1 k i hok).trans (by rw [he])) hc f hf (hts _ hlink) hfin hn hfit hl hdg fun H1 locs1 hW1 => kk H1 locs1 ⟨_, hR.set hok he2, hW1⟩
theorem db_putN (hexec : p.tables.exec = Jvm.exec) (hb : c.code = cc) (hts : ∀ w ∈ db_gw, w.before args s = true) {own host : String} (hown : s.vm.findClass own = some m.cls) (hK : db_K Γ s) (hS : db_S Γ A H0 L ok cel X H locs) (k i : Nat) (hok : ok k i) {ci : Nat} {fs : List Value} (he : cel k i (X k i) = .inr (ci, fs))
    {C : String} {T : u_T} {ty : Nat → FieldType} {N index : Nat} (hc : db_cls ci C T ty N) (f : Nat) (hf : f < N) (hlink : Cond.fieldLinkNest own index (T f).1 (T f).2.1 (T f).2.2.1 host ∈ lw_tbl) (hfin : (T f).2.2.2 = false) {v : Int32} (hn : narrow (ty f) (.int v) = .int v) (hfit : fits (ty f) (.int v) = true) (hl : f < fs.length) (he2 : cel k i (db_uf (X k i) f v) = .inr (ci, fs.set f (.int v))) (hdg : decode cc pc = .ok (.putfield index, 3))
    (kk : ∀ (H1 : Heap) (locs1 : List Loc), db_S Γ A H0 L ok cel (db_up X k i f v) H1 locs1 → W p l e R s m args below meth c H1 locs1 cells slots Q (F0 m (pc + 3) ls rest)) : W p l e R s m args below meth c H locs cells slots Q (F0 m pc ls (.int v :: .ref (L k i) :: rest)) := by
  obtain ⟨h, hR, hW⟩ := hS
  exact db_putNR hexec hb hts hown hK hW ((hR.1 k i hok).trans (by rw [he])) hc f hf hlink hfin hn hfit hl hdg fun H1 locs1 hW1 => kk H1 locs1 ⟨_, hR.set hok he2, hW1⟩
theorem db_ild (hexec : p.tables.exec = Jvm.exec) (hb : c.code = cc) (hK : db_K Γ s) (hS : db_S Γ A H0 L ok cel X H locs) (k i : Nat) (hok : ok k i) {n : Nat} (he : cel k i (X k i) = .inl (Γ.2 0, n, .inl (X k i))) (j : Nat) {x : Int32} (hi : x = nI j) (hj : j < n) (hn : n < 2 ^ 31) (hdg : decode cc pc = .ok (.iaload, 1))
    (kk : W p l e R s m args below meth c H locs cells slots Q (F0 m (pc + 1) ls (.int (X k i j) :: rest))) : W p l e R s m args below meth c H locs cells slots Q (F0 m pc ls (.int x :: .ref (L k i) :: rest)) := by
  obtain ⟨h, hR, hW⟩ := hS
  exact db_ildR hexec hb hK hW.1 ((hR.1 k i hok).trans (by rw [he])) hi hj hn hdg kk
theorem db_zld (hexec : p.tables.exec = Jvm.exec) (hb : c.code = cc) (hK : db_K Γ s) (hS : db_S Γ A H0 L ok cel X H locs) (k i : Nat) (hok : ok k i) {n : Nat} (he : cel k i (X k i) = .inl (Γ.2 1, n, .inl (X k i))) (j : Nat) {x : Int32} (hi : x = nI j) (hj : j < n) (hn : n < 2 ^ 31) (hdg : decode cc pc = .ok (.baload, 1))
    (kk : W p l e R s m args below meth c H locs cells slots Q (F0 m (pc + 1) ls (.int (X k i j) :: rest))) : W p l e R s m args below meth c H locs cells slots Q (F0 m pc ls (.int x :: .ref (L k i) :: rest)) := by
  obtain ⟨h, hR, hW⟩ := hS
  exact db_zldR hexec hb hK hW.1 ((hR.1 k i hok).trans (by rw [he])) hi hj hn hdg kk
theorem db_ist (hexec : p.tables.exec = Jvm.exec) (hb : c.code = cc) (hK : db_K Γ s) (hS : db_S Γ A H0 L ok cel X H locs) (k i : Nat) (hok : ok k i) {n : Nat} (he : ∀ y : Nat → Int32, cel k i y = .inl (Γ.2 0, n, .inl y)) (j : Nat) {x v : Int32} (hi : x = nI j) (hj : j < n) (hn : n < 2 ^ 31) (hdg : decode cc pc = .ok (.iastore, 1))
    (kk : ∀ (H1 : Heap) (locs1 : List Loc), db_S Γ A H0 L ok cel (db_up X k i j v) H1 locs1 → W p l e R s m args below meth c H1 locs1 cells slots Q (F0 m (pc + 1) ls rest)) : W p l e R s m args below meth c H locs cells slots Q (F0 m pc ls (.int v :: .int x :: .ref (L k i) :: rest)) := by
  obtain ⟨h, hR, hW⟩ := hS
  exact db_istR hexec hb hK hW ((hR.1 k i hok).trans (by rw [he])) hi hj hn hdg fun H1 locs1 hW1 => kk H1 locs1 ⟨_, hR.set hok (by rw [he, db_upd_uf]), hW1⟩
theorem db_zst (hexec : p.tables.exec = Jvm.exec) (hb : c.code = cc) (hK : db_K Γ s) (hS : db_S Γ A H0 L ok cel X H locs) (k i : Nat) (hok : ok k i) {n : Nat} (he : ∀ y : Nat → Int32, cel k i y = .inl (Γ.2 1, n, .inl y)) (j : Nat) {x v : Int32} (hi : x = nI j) (hj : j < n) (hn : n < 2 ^ 31) (hv : v = 0 ∨ v = 1) (hdg : decode cc pc = .ok (.bastore, 1))
    (kk : ∀ (H1 : Heap) (locs1 : List Loc), db_S Γ A H0 L ok cel (db_up X k i j v) H1 locs1 → W p l e R s m args below meth c H1 locs1 cells slots Q (F0 m (pc + 1) ls rest)) : W p l e R s m args below meth c H locs cells slots Q (F0 m pc ls (.int v :: .int x :: .ref (L k i) :: rest)) := by
  obtain ⟨h, hR, hW⟩ := hS
  exact db_zstR hexec hb hK hW ((hR.1 k i hok).trans (by rw [he])) hi hj hn hv hdg fun H1 locs1 hW1 => kk H1 locs1 ⟨_, hR.set hok (by rw [he, db_upd_uf]), hW1⟩
theorem db_alen (hexec : p.tables.exec = Jvm.exec) (hb : c.code = cc) (hK : db_K Γ s) (hS : db_S Γ A H0 L ok cel X H locs) (k i : Nat) (hok : ok k i) {cA : ClassId} {n : Nat} {x : (Nat → Int32) ⊕ (Nat → Int64) ⊕ (Nat → UInt32) ⊕ (Nat → UInt64) ⊕ (Nat → Option Nat)} (t0 : Nat) {ty : FieldType} (he : cel k i (X k i) = .inl (cA, n, x)) (ht : (db_tys Γ)[t0]? = some (cA, ty)) (hdg : decode cc pc = .ok (.arraylength, 1))
    (kk : W p l e R s m args below meth c H locs cells slots Q (F0 m (pc + 1) ls (.int (nI n) :: rest))) : W p l e R s m args below meth c H locs cells slots Q (F0 m pc ls (.ref (L k i) :: rest)) := by
  obtain ⟨h, hR, hW⟩ := hS
  exact db_alenR hexec hb hK hW.1 t0 ht ((hR.1 k i hok).trans (by rw [he])) hdg kk
theorem db_ald (hexec : p.tables.exec = Jvm.exec) (hb : c.code = cc) (hK : db_K Γ s) (hS : db_S Γ A H0 L ok cel X H locs) (k i : Nat) (hok : ok k i) {n b : Nat} {cA : ClassId} {C : String} {f : Nat → Option Nat} (t0 : Nat) (he : cel k i (X k i) = .inl (cA, n, .inr (.inr (.inr (.inr f))))) (ht : (db_tys Γ)[t0]? = some (cA, .object C)) (j : Nat) {x : Int32} (hi : x = nI j) (hj : j < n) (hn : n < 2 ^ 31) (hf : f j = some b) (hdg : decode cc pc = .ok (.aaload, 1))
    (kk : W p l e R s m args below meth c H locs cells slots Q (F0 m (pc + 1) ls (.ref b :: rest))) : W p l e R s m args below meth c H locs cells slots Q (F0 m pc ls (.int x :: .ref (L k i) :: rest)) := by
  obtain ⟨h, hR, hW⟩ := hS
  exact db_aldR hexec hb hK hW.1 t0 ht ((hR.1 k i hok).trans (by rw [he])) hi hj hn hf hdg kk
/-! returns -/
theorem db_end {P : Option Value → db_Mem → Prop} {h : db_Mem} (hW : db_W Γ A s.heap h H locs) {v : Option Value} (hP : P v h) {t : State} (ht : t.heap = H) : db_Q P Γ A args s (.returned v) t :=
  ⟨⟨v, h, rfl, hP, by rw [ht]; exact hW.1, hW.2.1⟩, hW.2.2.1.F ht⟩
theorem db_iret (hexec : p.tables.exec = Jvm.exec) (hb : c.code = cc) (hr : meth.sig.returnType = some .int) (hlocks : meth.locks = false) {X' : db_X} {r v : Int32} (hS : db_S Γ A s.heap L ok cel X H locs) (hv : v = r) (hX : X = X') (hdg : decode cc pc = .ok (.ireturn, 1)) :
    W p l e R s m args below meth c H locs cells slots (MQ below (db_Q (fun w h' => w = some (.int r) ∧ db_R L ok cel X' h') Γ A) args s cells slots A) (F0 m pc ls [.int v]) := by
  obtain ⟨h, hR, hW⟩ := hS
  subst hv; subst hX
  exact W.iret hexec hb hr (fun t ht _ => db_end hW ⟨rfl, hR⟩ ht) hW.2.2.1.2.2 hdg hlocks
theorem db_zret (hexec : p.tables.exec = Jvm.exec) (hb : c.code = cc) (hr : meth.sig.returnType = some .boolean) (hlocks : meth.locks = false) {X' : db_X} {r v : Int32} (hS : db_S Γ A s.heap L ok cel X H locs) (h01 : v = 0 ∨ v = 1) (hv : v = r) (hX : X = X') (hdg : decode cc pc = .ok (.ireturn, 1)) :
    W p l e R s m args below meth c H locs cells slots (MQ below (db_Q (fun w h' => w = some (.int r) ∧ db_R L ok cel X' h') Γ A) args s cells slots A) (F0 m pc ls [.int v]) := by
  obtain ⟨h, hR, hW⟩ := hS
  subst hv; subst hX
  exact W.zret hexec hb hr (by rcases h01 with rfl | rfl <;> rfl) (fun t ht _ => db_end hW ⟨rfl, hR⟩ ht) hW.2.2.1.2.2 hdg hlocks
theorem db_vret (hexec : p.tables.exec = Jvm.exec) (hb : c.code = cc) (hr : meth.sig.returnType = none) (hlocks : meth.locks = false) {X' : db_X} (hS : db_S Γ A s.heap L ok cel X H locs) (hX : X = X') (hdg : decode cc pc = .ok (.return_, 1)) :
    W p l e R s m args below meth c H locs cells slots (MQ below (db_Q (fun w h' => w = none ∧ db_R L ok cel X' h') Γ A) args s cells slots A) (F0 m pc ls []) := by
  obtain ⟨h, hR, hW⟩ := hS
  subst hX
  exact W.vret hexec hb hr (fun t ht _ => db_end hW ⟨rfl, hR⟩ ht) hW.2.2.1.2.2 hdg hlocks
theorem db_lret (hexec : p.tables.exec = Jvm.exec) (hb : c.code = cc) (hr : meth.sig.returnType = some .long) (hlocks : meth.locks = false) {X' : db_X} {r v : Int64} (hS : db_S Γ A s.heap L ok cel X H locs) (hv : v = r) (hX : X = X') (hdg : decode cc pc = .ok (.lreturn, 1)) :
    W p l e R s m args below meth c H locs cells slots (MQ below (db_Q (fun w h' => w = some (.long r) ∧ db_R L ok cel X' h') Γ A) args s cells slots A) (F0 m pc ls [.long v]) := by
  obtain ⟨h, hR, hW⟩ := hS
  subst hv; subst hX
  exact W.lret hexec hb hr (fun t ht _ => db_end hW ⟨rfl, hR⟩ ht) hW.2.2.1.2.2 hdg hlocks
end DBW
