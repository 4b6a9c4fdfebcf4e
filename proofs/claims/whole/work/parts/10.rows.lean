/-! my own layer: memory as a map, a world of cells (k, i) that hold numbers X k i f -/
abbrev db_Mem : Type := Nat → Option va_E
abbrev db_G : Type := va_G × (Nat → ClassId)
abbrev db_X : Type := Nat → Nat → Nat → Int32
def db_tys (Γ : db_G) : List (ClassId × FieldType) := [(Γ.2 0, .int), (Γ.2 1, .boolean), (Γ.2 2, .object RX5), (Γ.2 3, .object RX3)]
def db_Ns (U : State) : Prop := ∀ w ∈ lw_tbl, db_isN w = true → va_Nw w U
def db_K (Γ : db_G) (U : State) : Prop := va_K Γ.1 vwCl (db_tys Γ) U ∧ db_Ns U ∧ va_AO RX5 U ∧ va_AO RX3 U
theorem db_Ns.same {u U : State} (h : u.vm = U.vm) (hn : db_Ns u) : db_Ns U := by
  intro w hw hb
  refine va_Nw.same ?_ h (hn w hw hb)
  cases w <;> first | rfl | (simp [db_isN] at hb)
theorem db_Ns.warm {s U : State} (hW : s.WarmedH U.vm) (hn : db_Ns s) : db_Ns U := by
  intro w hw hb
  have h := hn w hw hb
  cases w <;> first | exact va_Nw.warmF hW h | exact va_Nw.warmM hW h | (simp [db_isN] at hb)
theorem db_K.warm {Γ : db_G} {s U : State} (hW : s.WarmedH U.vm) (h : db_K Γ s) : db_K Γ U := ⟨va_K.moved hW.alike h.1, h.2.1.warm hW, h.2.2.1.moved hW.alike, h.2.2.2.moved hW.alike⟩
theorem db_K.same {Γ : db_G} {s U : State} (hv : s.vm = U.vm) (h : db_K Γ s) : db_K Γ U := ⟨va_K.moved (by rw [hv]; exact Vm.Alike.refl _) h.1, h.2.1.same hv, h.2.2.1.moved (by rw [hv]; exact Vm.Alike.refl _), h.2.2.2.moved (by rw [hv]; exact Vm.Alike.refl _)⟩
/-- what is said of a class -/
def db_cls (ci : Nat) (C : String) (T : u_T) (ty : Nat → FieldType) (N : Nat) : Prop :=
  vwCl[ci]? = some (C, T, N) ∧ (∀ w ∈ u_ws C T N, w ∈ db_gw) ∧ (∀ k, k < N → parseFieldDescriptor (T k).2.2.1 = some (ty k)) ∧ ∀ a, a < N → ∀ b, b < N → a ≠ b → (T a).2.1 ≠ (T b).2.1
theorem db_in_of {ws : List Cond} (h : ws.all (fun w => decide (w ∈ lw_tbl) && goodWord w) = true) : ∀ w ∈ ws, w ∈ db_gw := by
  intro w hw
  have h1 := List.all_eq_true.mp h w hw
  simp only [Bool.and_eq_true, decide_eq_true_eq] at h1
  exact List.mem_filter.mpr h1
theorem db_c0 : db_cls 0 RX0 TX0 tyX0 7 := ⟨rfl, db_in_of (by decide +kernel), tyX0_ok, nmX0⟩
theorem db_c1 : db_cls 1 RX1 TX1 tyX1 3 := ⟨rfl, db_in_of (by decide +kernel), tyX1_ok, nmX1⟩
theorem db_c2 : db_cls 2 RX2 TX2 tyX2 2 := ⟨rfl, db_in_of (by decide +kernel), tyX2_ok, nmX2⟩
theorem db_c3 : db_cls 3 RX3 TX3 tyX3 5 := ⟨rfl, db_in_of (by decide +kernel), tyX3_ok, nmX3⟩
theorem db_c4 : db_cls 4 RX4 TX4 tyX4 2 := ⟨rfl, db_in_of (by decide +kernel), tyX4_ok, nmX4⟩
theorem db_c5 : db_cls 5 RX5 TX5 tyX5 12 := ⟨rfl, db_in_of (by decide +kernel), tyX5_ok, nmX5⟩
theorem db_c6 : db_cls 6 RX6 TX6 tyX6 8 := ⟨rfl, db_in_of (by decide +kernel), tyX6_ok, nmX6⟩
theorem db_c7 : db_cls 7 RX7 TX7 tyX7 36 := ⟨rfl, db_in_of (by decide +kernel), tyX7_ok, nmX7⟩
/-! memory -/
def db_set (h : db_Mem) (a : Nat) (x : va_E) : db_Mem := fun q => if q = a then some x else h q
def db_Hp (Γ : db_G) (h : db_Mem) (H : Heap) : Prop := ∀ (a : Nat) (x : va_E), h a = some x → va_at Γ.1 vwCl (a, x) H
def db_A (h : db_Mem) (sz : Nat) : Nat → Prop := fun q => h q ≠ none ∨ sz ≤ q
def db_W (Γ : db_G) (A : Nat → Prop) (H0 : Heap) (h : db_Mem) (H : Heap) (locs : List Loc) : Prop :=
  db_Hp Γ h H ∧ (∀ (a : Nat) (x : va_E), h a = some x → A a) ∧ va_S A H0 H locs ∧ ∀ q : Nat, H0.size ≤ q → A q
theorem db_one {D : va_G} {cl : List vw_C} {q : Nat × va_E} {H : Heap} (h : va_at D cl q H) : va_P D cl [q] H := by
  intro k x hx
  cases k with
  | zero => cases hx; exact h
  | succ k => simp at hx
theorem db_W.put {Γ : db_G} {A : Nat → Prop} {H0 H H1 : Heap} {h : db_Mem} {locs : List Loc} {a k : Nat} {x x' : va_E} (hw : db_W Γ A H0 h H locs) (ha : h a = some x) (hz : H1.size = H.size) (ho : ∀ q : Nat, q ≠ a → H1[q]? = H[q]?)
    (hx : va_at Γ.1 vwCl (a, x') H1) : db_W Γ A H0 (db_set h a x') H1 (locs ++ [⟨a, k⟩]) := by
  refine ⟨fun q y hq => ?_, fun q y hq => ?_, hw.2.2.1.put hz ho (hw.2.1 a x ha), hw.2.2.2⟩
  · unfold db_set at hq
    split at hq
    · rename_i e; subst e; cases hq; exact hx
    · rename_i e; exact (hw.1 q y hq).kept (ho q e)
  · unfold db_set at hq
    split at hq
    · rename_i e; subst e; exact hw.2.1 _ x ha
    · exact hw.2.1 q y hq
theorem db_W.push {Γ : db_G} {A : Nat → Prop} {H0 H H1 : Heap} {h : db_Mem} {locs : List Loc} {x' : va_E} (hw : db_W Γ A H0 h H locs) (hz : H1.size = H.size + 1) (ho : ∀ q : Nat, q < H.size → H1[q]? = H[q]?)
    (hx : va_at Γ.1 vwCl (H.size, x') H1) : db_W Γ A H0 (db_set h H.size x') H1 locs ∧ h H.size = none := by
  refine ⟨⟨fun q y hq => ?_, fun q y hq => ?_, ⟨Nat.le_trans hw.2.2.1.1 (by omega), fun q h1 h2 => (ho q (Nat.lt_of_lt_of_le h1 hw.2.2.1.1)).trans (hw.2.2.1.2.1 q h1 h2), hw.2.2.1.2.2⟩, hw.2.2.2⟩, ?_⟩
  · unfold db_set at hq
    split at hq
    · rename_i e; subst e; cases hq; exact hx
    · exact (hw.1 q y hq).kept (ho q (hw.1 q y hq).lt)
  · unfold db_set at hq
    split at hq
    · rename_i e; subst e; exact hw.2.2.2 _ hw.2.2.1.1
    · exact hw.2.1 q y hq
  · cases e : h H.size with
    | none => rfl
    | some y => exact absurd (hw.1 _ y e).lt (by simp)
section DBR
variable {p : Program} {l : Launch} {e : Env} {R : Room} {s : State} {m : MethodId} {args : Array Value} {below : List Frame} {meth : Method} {c : Code} {H : Heap} {locs : List Loc} {cells slots : Nat} {Q : State → Prop}
variable {cc : ByteArray} {pc : Nat} {ls : Array Slot} {rest : List Value} {Γ : db_G} {A : Nat → Prop} {a : Nat} {H0 : Heap} {h : db_Mem}
theorem db_getR (hexec : p.tables.exec = Jvm.exec) (hb : c.code = cc) (hts : ∀ w ∈ db_gw, w.before args s = true) {own : String} (hown : s.vm.findClass own = some m.cls) (hK : db_K Γ s) (hw : db_Hp Γ h H) {ci : Nat} {fs : List Value} (ha : h a = some (.inr (ci, fs)))
    {C : String} {T : u_T} {ty : Nat → FieldType} {N index : Nat} (hc : db_cls ci C T ty N) (k : Nat) (hk : k < N) (hlink : (Cond.fieldLink own index (T k).1 (T k).2.1 (T k).2.2.1).before args s = true) {v : Value} (hv : fs[k]? = some v) (hdg : decode cc pc = .ok (.getfield index, 3))
    (kk : W p l e R s m args below meth c H locs cells slots Q (F0 m (pc + 3) ls (v :: rest))) : W p l e R s m args below meth c H locs cells slots Q (F0 m pc ls (.ref a :: rest)) :=
  va_get (ws := [(a, .inr (ci, fs))]) hexec hb hts hc.2.1 hown hK.1 (db_one (hw _ _ ha)) 0 rfl hc.1 k hk hlink (fun _ h9 => h9) hv hdg kk
theorem db_getNR (hexec : p.tables.exec = Jvm.exec) (hb : c.code = cc) (hts : ∀ w ∈ db_gw, w.before args s = true) {own host : String} (hown : s.vm.findClass own = some m.cls) (hK : db_K Γ s) (hw : db_Hp Γ h H) {ci : Nat} {fs : List Value} (ha : h a = some (.inr (ci, fs)))
    {C : String} {T : u_T} {ty : Nat → FieldType} {N index : Nat} (hc : db_cls ci C T ty N) (k : Nat) (hk : k < N) (hlink : Cond.fieldLinkNest own index (T k).1 (T k).2.1 (T k).2.2.1 host ∈ lw_tbl) {v : Value} (hv : fs[k]? = some v) (hdg : decode cc pc = .ok (.getfield index, 3))
    (kk : W p l e R s m args below meth c H locs cells slots Q (F0 m (pc + 3) ls (v :: rest))) : W p l e R s m args below meth c H locs cells slots Q (F0 m pc ls (.ref a :: rest)) :=
  va_getN (ws := [(a, .inr (ci, fs))]) hexec hb hts hc.2.1 hown hK.1 (db_one (hw _ _ ha)) 0 rfl hc.1 k hk (va_Nw.use rfl (hK.2.1 _ hlink rfl)) (fun _ h9 => h9) hv hdg kk
theorem db_putR (hexec : p.tables.exec = Jvm.exec) (hb : c.code = cc) (hts : ∀ w ∈ db_gw, w.before args s = true) {own : String} (hown : s.vm.findClass own = some m.cls) (hK : db_K Γ s) (hw : db_W Γ A H0 h H locs) {ci : Nat} {fs : List Value} (ha : h a = some (.inr (ci, fs)))
    {C : String} {T : u_T} {ty : Nat → FieldType} {N index : Nat} (hc : db_cls ci C T ty N) (k : Nat) (hk : k < N) (hlink : (Cond.fieldLink own index (T k).1 (T k).2.1 (T k).2.2.1).before args s = true) (hfin : (T k).2.2.2 = false) {v : Value} (hn : narrow (ty k) v = v) (hfit : fits (ty k) v = true) (hl : k < fs.length) (hdg : decode cc pc = .ok (.putfield index, 3))
    (kk : ∀ (H1 : Heap) (locs1 : List Loc), db_W Γ A H0 (db_set h a (.inr (ci, fs.set k v))) H1 locs1 → W p l e R s m args below meth c H1 locs1 cells slots Q (F0 m (pc + 3) ls rest)) : W p l e R s m args below meth c H locs cells slots Q (F0 m pc ls (v :: .ref a :: rest)) := by
  obtain ⟨hc1, hin, hty, hnm⟩ := hc
  have hap := va_apart (own := own) hts hin ty hty hnm hK.1 hc1
  obtain ⟨r, h1, cell, q1, q2, q3, q4⟩ := hw.1 _ _ ha
  have hr : r = (C, T, N) := Option.some.inj (h1.symm.trans hc1)
  subst hr
  obtain ⟨hS, hfc, kC, hkC, hkind⟩ := hK.1.1 ci _ hc1
  obtain ⟨cf, kf, fi, f, hi, hsl⟩ := hS k hk
  have hlay := hts _ (hin _ (u_in_lay hk))
  unfold u_lay at hlay
  rw [if_neg (by rw [hfin]; decide)] at hlay
  have hst := (u_facts hfc hkC (u_lays hts hin hk) hi).1
  have h6 := u_store hfc hkC hkind hlay hi (hty k hk) hn hfit
  refine W.putK hexec hb (f := f) ⟨hown, hlink, ⟨_, _, _, hi⟩, hst⟩ (by rw [q2]; exact h6) q1 q3 (by rw [hsl]; exact k2_hasslot (q4 k hk)) rfl rfl hdg fun H' e1 e2 e3 => ?_
  rw [hsl] at e1 ⊢
  exact kk H' _ (hw.put ha e2 e3 ⟨_, hc1, t_OB.to (V := updV (vp_V fs) k v) ⟨_, e1, q2, q3, t_set q4 hap hk v⟩ (fun j _ => vp_updV_set hl v j)⟩)
theorem db_putNR (hexec : p.tables.exec = Jvm.exec) (hb : c.code = cc) (hts : ∀ w ∈ db_gw, w.before args s = true) {own host : String} (hown : s.vm.findClass own = some m.cls) (hK : db_K Γ s) (hw : db_W Γ A H0 h H locs) {ci : Nat} {fs : List Value} (ha : h a = some (.inr (ci, fs)))
    {C : String} {T : u_T} {ty : Nat → FieldType} {N index : Nat} (hc : db_cls ci C T ty N) (k : Nat) (hk : k < N) (hlink : Cond.fieldLinkNest own index (T k).1 (T k).2.1 (T k).2.2.1 host ∈ lw_tbl) (hfin : (T k).2.2.2 = false) {v : Value} (hn : narrow (ty k) v = v) (hfit : fits (ty k) v = true) (hl : k < fs.length) (hdg : decode cc pc = .ok (.putfield index, 3))
    (kk : ∀ (H1 : Heap) (locs1 : List Loc), db_W Γ A H0 (db_set h a (.inr (ci, fs.set k v))) H1 locs1 → W p l e R s m args below meth c H1 locs1 cells slots Q (F0 m (pc + 3) ls rest)) : W p l e R s m args below meth c H locs cells slots Q (F0 m pc ls (v :: .ref a :: rest)) := by
  obtain ⟨hc1, hin, hty, hnm⟩ := hc
  have hap := va_apart (own := own) hts hin ty hty hnm hK.1 hc1
  obtain ⟨r, h1, cell, q1, q2, q3, q4⟩ := hw.1 _ _ ha
  have hr : r = (C, T, N) := Option.some.inj (h1.symm.trans hc1)
  subst hr
  obtain ⟨hS, hfc, kC, hkC, hkind⟩ := hK.1.1 ci _ hc1
  obtain ⟨cf, kf, fi, f, hi, hsl⟩ := hS k hk
  have hlay := hts _ (hin _ (u_in_lay hk))
  unfold u_lay at hlay
  rw [if_neg (by rw [hfin]; decide)] at hlay
  have hst := (u_facts hfc hkC (u_lays hts hin hk) hi).1
  have h6 := u_store hfc hkC hkind hlay hi (hty k hk) hn hfit
  refine va_WputK hexec hb (f := f) hown (va_Nw.use rfl (hK.2.1 _ hlink rfl)) hi hst (by rw [q2]; exact h6) q1 q3 (by rw [hsl]; exact k2_hasslot (q4 k hk)) rfl rfl hdg fun H' e1 e2 e3 => ?_
  rw [hsl] at e1 ⊢
  exact kk H' _ (hw.put ha e2 e3 ⟨_, hc1, t_OB.to (V := updV (vp_V fs) k v) ⟨_, e1, q2, q3, t_set q4 hap hk v⟩ (fun j _ => vp_updV_set hl v j)⟩)
theorem db_putFR (hexec : p.tables.exec = Jvm.exec) (hb : c.code = cc) (hts : ∀ w ∈ db_gw, w.before args s = true) {own : String} (hown : s.vm.findClass own = some m.cls) (hK : db_K Γ s) (hw : db_W Γ A H0 h H locs) {ci : Nat} {fs : List Value} (ha : h a = some (.inr (ci, fs)))
    {C : String} {T : u_T} {ty : Nat → FieldType} {N index : Nat} (hc : db_cls ci C T ty N) (k : Nat) (hk : k < N) (hlink : (Cond.fieldLink own index (T k).1 (T k).2.1 (T k).2.2.1).before args s = true) (hfin : (T k).2.2.2 = true) (hin2 : meth.name = "<init>") (hdecl : (T k).1 = own) {v : Value} (hn : narrow (ty k) v = v) (hfit : fits (ty k) v = true) (hl : k < fs.length) (hdg : decode cc pc = .ok (.putfield index, 3))
    (kk : ∀ (H1 : Heap) (locs1 : List Loc), db_W Γ A H0 (db_set h a (.inr (ci, fs.set k v))) H1 locs1 → W p l e R s m args below meth c H1 locs1 cells slots Q (F0 m (pc + 3) ls rest)) : W p l e R s m args below meth c H locs cells slots Q (F0 m pc ls (v :: .ref a :: rest)) := by
  obtain ⟨hc1, hin, hty, hnm⟩ := hc
  have hap := va_apart (own := own) hts hin ty hty hnm hK.1 hc1
  obtain ⟨r, h1, cell, q1, q2, q3, q4⟩ := hw.1 _ _ ha
  have hr : r = (C, T, N) := Option.some.inj (h1.symm.trans hc1)
  subst hr
  obtain ⟨hS, hfc, kC, hkC, hkind⟩ := hK.1.1 ci _ hc1
  obtain ⟨cf, kf, fi, f, hi, hsl⟩ := hS k hk
  have hlay := hts _ (hin _ (u_in_lay hk))
  unfold u_lay at hlay
  rw [if_pos hfin] at hlay
  have hst := (u_facts hfc hkC (u_lays hts hin hk) hi).1
  have hcf : m.cls = cf := by
    obtain ⟨_, _, c', _, _, _, -, -, hf', -, -, -, hown2, -⟩ := Cond.laysFinal_spec hlay
    have e1 : c' = cf := by have := hi.symm.trans hf'; simp at this; exact this.1.symm
    rw [hdecl] at hown2
    rw [← e1]; exact Option.some.inj (hown.symm.trans hown2)
  have h6 := u_fits hfc hkC hkind (Or.inr hlay) hi (hty k hk) hn hfit
  refine W.putFinK hexec hb hown hlink hi hst hcf hin2 (by rw [q2]; exact h6) q1 q3 (by rw [hsl]; exact k2_hasslot (q4 k hk)) rfl rfl hdg fun H' e1 e2 e3 => ?_
  rw [hsl] at e1 ⊢
  exact kk H' _ (hw.put ha e2 e3 ⟨_, hc1, t_OB.to (V := updV (vp_V fs) k v) ⟨_, e1, q2, q3, t_set q4 hap hk v⟩ (fun j _ => vp_updV_set hl v j)⟩)
theorem db_ildR (hexec : p.tables.exec = Jvm.exec) (hb : c.code = cc) (hK : db_K Γ s) (hw : db_Hp Γ h H) {n j : Nat} {f : Nat → Int32} (ha : h a = some (.inl (Γ.2 0, n, .inl f))) {i : Int32} (hi : i = nI j) (hj : j < n) (hn : n < 2 ^ 31) (hdg : decode cc pc = .ok (.iaload, 1))
    (kk : W p l e R s m args below meth c H locs cells slots Q (F0 m (pc + 1) ls (.int (f j) :: rest))) : W p l e R s m args below meth c H locs cells slots Q (F0 m pc ls (.int i :: .ref a :: rest)) := by
  subst hi
  refine va_iald (ws := [(a, .inl (Γ.2 0, n, .inl f))]) hexec hb hK.1 (db_one (hw _ _ ha)) 0 0 rfl rfl (vp_in_nI hj hn) hdg ?_
  rw [nI_clamp (by omega)]; exact kk
theorem db_zldR (hexec : p.tables.exec = Jvm.exec) (hb : c.code = cc) (hK : db_K Γ s) (hw : db_Hp Γ h H) {n j : Nat} {f : Nat → Int32} (ha : h a = some (.inl (Γ.2 1, n, .inl f))) {i : Int32} (hi : i = nI j) (hj : j < n) (hn : n < 2 ^ 31) (hdg : decode cc pc = .ok (.baload, 1))
    (kk : W p l e R s m args below meth c H locs cells slots Q (F0 m (pc + 1) ls (.int (f j) :: rest))) : W p l e R s m args below meth c H locs cells slots Q (F0 m pc ls (.int i :: .ref a :: rest)) := by
  subst hi
  refine va_zald (ws := [(a, .inl (Γ.2 1, n, .inl f))]) hexec hb hK.1 (db_one (hw _ _ ha)) 0 1 rfl rfl (vp_in_nI hj hn) hdg ?_
  rw [nI_clamp (by omega)]; exact kk
theorem db_aldR (hexec : p.tables.exec = Jvm.exec) (hb : c.code = cc) (hK : db_K Γ s) (hw : db_Hp Γ h H) {n j b : Nat} {cA : ClassId} {C : String} (t0 : Nat) (ht : (db_tys Γ)[t0]? = some (cA, .object C)) {f : Nat → Option Nat} (ha : h a = some (.inl (cA, n, .inr (.inr (.inr (.inr f)))))) {i : Int32} (hi : i = nI j) (hj : j < n) (hn : n < 2 ^ 31) (hf : f j = some b) (hdg : decode cc pc = .ok (.aaload, 1))
    (kk : W p l e R s m args below meth c H locs cells slots Q (F0 m (pc + 1) ls (.ref b :: rest))) : W p l e R s m args below meth c H locs cells slots Q (F0 m pc ls (.int i :: .ref a :: rest)) := by
  subst hi
  refine va_aldq (ws := [(a, .inl (cA, n, .inr (.inr (.inr (.inr f)))))]) hexec hb hK.1 (db_one (hw _ _ ha)) 0 t0 rfl ht (vp_in_nI hj hn) hdg ?_
  rw [nI_clamp (by omega), hf]; exact kk
theorem db_alenR (hexec : p.tables.exec = Jvm.exec) (hb : c.code = cc) (hK : db_K Γ s) (hw : db_Hp Γ h H) {cA : ClassId} {x : vp_A} {ty : FieldType} (t0 : Nat) (ht : (db_tys Γ)[t0]? = some (cA, ty)) (ha : h a = some (.inl (cA, x))) (hdg : decode cc pc = .ok (.arraylength, 1))
    (kk : W p l e R s m args below meth c H locs cells slots Q (F0 m (pc + 1) ls (.int (nI x.1) :: rest))) : W p l e R s m args below meth c H locs cells slots Q (F0 m pc ls (.ref a :: rest)) :=
  va_alen (ws := [(a, .inl (cA, x))]) hexec hb hK.1 (db_one (hw _ _ ha)) 0 t0 rfl ht rfl hdg kk
theorem db_istR (hexec : p.tables.exec = Jvm.exec) (hb : c.code = cc) (hK : db_K Γ s) (hw : db_W Γ A H0 h H locs) {n j : Nat} {f : Nat → Int32} (ha : h a = some (.inl (Γ.2 0, n, .inl f))) {i x : Int32} (hi : i = nI j) (hj : j < n) (hn : n < 2 ^ 31) (hdg : decode cc pc = .ok (.iastore, 1))
    (kk : ∀ (H1 : Heap) (locs1 : List Loc), db_W Γ A H0 (db_set h a (.inl (Γ.2 0, n, .inl (upd f j x)))) H1 locs1 → W p l e R s m args below meth c H1 locs1 cells slots Q (F0 m (pc + 1) ls rest)) : W p l e R s m args below meth c H locs cells slots Q (F0 m pc ls (.int x :: .int i :: .ref a :: rest)) := by
  subst hi
  refine W.iast hexec hb (hw.1 _ _ ha) ((hK.1.2 0 _ rfl).1 n (fun j => .int (f j))) (fun q => by cases q) (by show ¬ (nI j < 0 ∨ (arrV _ _ _).slots.size ≤ _); rw [arrV_size]; exact vp_in_nI hj hn) rfl rfl hdg fun H1 e1 z oq => ?_
  refine kk H1 _ (hw.put ha z oq ?_)
  show H1[a]? = some (vp_cell _ _)
  rw [e1]
  rw [vp_cell_i, vp_cell_i, arrV_store, nI_clamp (by omega)]
  congr 2
  funext q
  by_cases hq : q = j
  · subst hq
    simp [updV, upd]
  · simp [updV, upd, hq]
theorem db_zstR (hexec : p.tables.exec = Jvm.exec) (hb : c.code = cc) (hK : db_K Γ s) (hw : db_W Γ A H0 h H locs) {n j : Nat} {f : Nat → Int32} (ha : h a = some (.inl (Γ.2 1, n, .inl f))) {i x : Int32} (hi : i = nI j) (hj : j < n) (hn : n < 2 ^ 31) (hx : x = 0 ∨ x = 1) (hdg : decode cc pc = .ok (.bastore, 1))
    (kk : ∀ (H1 : Heap) (locs1 : List Loc), db_W Γ A H0 (db_set h a (.inl (Γ.2 1, n, .inl (upd f j x)))) H1 locs1 → W p l e R s m args below meth c H1 locs1 cells slots Q (F0 m (pc + 1) ls rest)) : W p l e R s m args below meth c H locs cells slots Q (F0 m pc ls (.int x :: .int i :: .ref a :: rest)) := by
  subst hi
  refine W.zast hexec hb (hw.1 _ _ ha) ((hK.1.2 1 _ rfl).1 n (fun j => .int (f j))) (fun q => by cases q) (by show ¬ (nI j < 0 ∨ (arrV _ _ _).slots.size ≤ _); rw [arrV_size]; exact vp_in_nI hj hn) rfl rfl hdg fun H1 e1 z oq => ?_
  refine kk H1 _ (hw.put ha z oq ?_)
  show H1[a]? = some (vp_cell _ _)
  rw [e1]
  rw [vp_cell_i, vp_cell_i, arrV_store, nI_clamp (by omega)]
  congr 2
  funext q
  have hz : narrow .boolean (.int x) = .int x := by rcases hx with rfl | rfl <;> rfl
  by_cases hq : q = j
  · subst hq
    simp [updV, upd, hz]
  · simp [updV, upd, hq]
theorem db_astR (hexec : p.tables.exec = Jvm.exec) (hb : c.code = cc) (hK : db_K Γ s) (hw : db_W Γ A H0 h H locs) {n j ci v : Nat} {r : vw_C} {vs : List Value} {cA : ClassId} (t0 : Nat) (ht : (db_tys Γ)[t0]? = some (cA, .object r.1)) (hc : vwCl[ci]? = some r) {f : Nat → Option Nat} (ha : h a = some (.inl (cA, n, .inr (.inr (.inr (.inr f)))))) (hv : h v = some (.inr (ci, vs))) {i : Int32} (hi : i = nI j) (hj : j < n) (hn : n < 2 ^ 31) (hdg : decode cc pc = .ok (.aastore, 1))
    (kk : ∀ (H1 : Heap) (locs1 : List Loc), db_W Γ A H0 (db_set h a (.inl (cA, n, .inr (.inr (.inr (.inr (va_up f j (some v)))))))) H1 locs1 → W p l e R s m args below meth c H1 locs1 cells slots Q (F0 m (pc + 1) ls rest)) : W p l e R s m args below meth c H locs cells slots Q (F0 m pc ls (.ref v :: .int i :: .ref a :: rest)) := by
  subst hi
  obtain ⟨r', hr', cellV, g1, g2, g3, -⟩ := hw.1 _ _ hv
  have hcls := (hK.1.1 ci r hc).2
  obtain ⟨kA, comp, k1, k2, k3, -⟩ := (hK.1.2 t0 _ ht).2
  have hcomp : comp = Γ.1.1 ci := Option.some.inj (k3.symm.trans hcls.1)
  subst hcomp
  obtain ⟨kC, hkC, -⟩ := hcls.2
  refine W.aast hexec hb (hw.1 _ _ ha) (fun q h => by cases h) (fun h => by cases h) k1 k2 rfl hkC ⟨nI_pos (by omega), by show _ < (arrV _ _ _).slots.size; rw [arrV_size, nI_clamp (by omega)]; exact hj⟩ g1 (fun q h => by rw [g3] at h; cases h) (by rw [g2]; exact hkC) (by rw [g2]; exact va_assign hcls) rfl rfl hdg fun H1 e1 z oq => ?_
  refine kk H1 _ (hw.put ha z oq ?_)
  show H1[a]? = some (vp_cell _ _)
  rw [e1]
  rw [vp_cell_q, vp_cell_q, arrV_store, nI_clamp (by omega)]
  congr 2
  funext q
  by_cases hq : q = j
  · subst hq
    simp [updV, va_up, va_rf]
  · simp [updV, va_up, hq]
end DBR
