section MSTEP
variable {p : Program} {l : Launch} {e : Env} {R : Room} {s : State} {m : MethodId} {args : Array Value} {below : List Frame} {meth : Method} {c : Code} {H : Heap} {locs : List Loc} {cells slots : Nat} {Q : State → Prop}
variable {pc a : Nat} {ls : Array Slot} {rest : List Value} {Γ : db_G} {A : Nat → Prop} {H0 : Heap} {h : db_Mem}
theorem mm_putA (hC : db_Cx p s m args meth c Γ RX7 cX7_init 7 none) (hin2 : meth.name = "<init>") {K : Nat} (hW : db_W Γ A H0 h H locs) {fs : List Value} (fo : h a = some (.inr (7, fs))) (fA : ∀ i, i < K → h (a + 1 + i) = some (mm_ar Γ i)) (f : Nat) (hf : f < 36) {index : Nat} (hlink : Cond.fieldLink RX7 index (TX7 f).1 (TX7 f).2.1 (TX7 f).2.2.1 ∈ db_gw) (hfin : (TX7 f).2.2.2 = true) (hdecl : (TX7 f).1 = RX7) {v : Value} (hn : narrow (tyX7 f) v = v) (hfit : fits (tyX7 f) v = true) (hl : f < fs.length) (hdg : decode cX7_init pc = .ok (.putfield index, 3))
    (kk : ∀ (h1 : db_Mem) (H1 : Heap) (locs1 : List Loc), db_W Γ A H0 h1 H1 locs1 → H1.size = H.size → h1 a = some (.inr (7, fs.set f v)) → (∀ i, i < K → h1 (a + 1 + i) = some (mm_ar Γ i)) → W p l e R s m args below meth c H1 locs1 cells slots Q (F0 m (pc + 3) ls rest)) : W p l e R s m args below meth c H locs cells slots Q (F0 m pc ls (v :: .ref a :: rest)) := by
  obtain ⟨hx, hb, hml, -, -, hown, hts, hK⟩ := hC
  exact db_putFS hx hb hts hown hK hW fo db_c7 f hf (hts _ hlink) hfin hin2 hdecl hn hfit hl hdg fun H1 locs1 hz1 hW1 => kk _ H1 locs1 hW1 hz1 db_ss (fun i hi => (db_sn (by omega)).trans (fA i hi))
theorem mm_stepI (hC : db_Cx p s m args meth c Γ RX7 cX7_init 7 none) (hin2 : meth.name = "<init>") (K f len : Nat) (hW : db_W Γ A H0 h H locs) (hz : H.size = a + 1 + K) {fs : List Value} (fo : h a = some (.inr (7, fs))) (fA : ∀ i, i < K → h (a + 1 + i) = some (mm_ar Γ i)) (hla : ls[0]? = some (.val (.ref a))) (har : mm_ar Γ K = .inl (Γ.2 0, len, .inl (fun _ => 0))) (hlen : len ≤ 120) (hf : f < 36) {index : Nat} (hlink : Cond.fieldLink RX7 index (TX7 f).1 (TX7 f).2.1 (TX7 f).2.2.1 ∈ db_gw) (hfin : (TX7 f).2.2.2 = true) (hdecl : (TX7 f).1 = RX7) (hn : ∀ q : Nat, narrow (tyX7 f) (.ref q) = .ref q) (hfit : ∀ q : Nat, fits (tyX7 f) (.ref q) = true) (hl : f < fs.length) {b : Int} (hb8 : (Int8.ofInt b).toInt32 = nI len)
    (d1 : decode cX7_init pc = .ok (.aload_n 0, 1)) (d2 : decode cX7_init (pc + 1) = .ok (.bipush b, 2)) (d3 : decode cX7_init (pc + 3) = .ok (.newarray .int, 2)) (d4 : decode cX7_init (pc + 5) = .ok (.putfield index, 3)) (hcells : cells + 1 ≤ R.cells) (hslots : slots + len ≤ R.slots)
    (kk : ∀ (h1 : db_Mem) (H1 : Heap) (locs1 : List Loc), db_W Γ A H0 h1 H1 locs1 → H1.size = a + 1 + (K + 1) → h1 a = some (.inr (7, fs.set f (.ref (a + 1 + K)))) → (∀ i, i < K + 1 → h1 (a + 1 + i) = some (mm_ar Γ i)) → W p l e R s m args below meth c H1 locs1 (cells + 1) (slots + len) Q (F0 m (pc + 8) ls [])) : W p l e R s m args below meth c H locs cells slots Q (F0 m pc ls []) := by
  obtain ⟨hx, hb, hml, -, -, hown, hts, hK⟩ := id hC
  refine lv_aload_n hx hb d1 rfl hla ?_
  refine lv_bipush hx hb d2 hb8 ?_
  refine db_newI hx hb hts hK hW wd_139 rfl (by omega) hcells hslots d3 hz (fun H1 hW1 hno hz1 => ?_)
  have fo1 : db_set h (a + 1 + K) (.inl (Γ.2 0, len, .inl (fun _ => 0))) a = some (.inr (7, fs)) := (db_sn (by omega)).trans fo
  have fA1 : ∀ i, i < K + 1 → db_set h (a + 1 + K) (.inl (Γ.2 0, len, .inl (fun _ => 0))) (a + 1 + i) = some (mm_ar Γ i) := by
    intro i hi
    by_cases q : i = K
    · rw [q, har]; exact db_ss
    · exact (db_sn (by omega)).trans (fA i (by omega))
  exact mm_putA hC hin2 hW1 fo1 fA1 f hf hlink hfin hdecl (hn _) (hfit _) hl d4 fun h2 H2 locs2 hW2 hz2 fo2 fA2 => kk h2 H2 locs2 hW2 (by omega) fo2 fA2
theorem mm_stepZ (hC : db_Cx p s m args meth c Γ RX7 cX7_init 7 none) (hin2 : meth.name = "<init>") (K f len : Nat) (hW : db_W Γ A H0 h H locs) (hz : H.size = a + 1 + K) {fs : List Value} (fo : h a = some (.inr (7, fs))) (fA : ∀ i, i < K → h (a + 1 + i) = some (mm_ar Γ i)) (hla : ls[0]? = some (.val (.ref a))) (har : mm_ar Γ K = .inl (Γ.2 1, len, .inl (fun _ => 0))) (hlen : len ≤ 120) (hf : f < 36) {index : Nat} (hlink : Cond.fieldLink RX7 index (TX7 f).1 (TX7 f).2.1 (TX7 f).2.2.1 ∈ db_gw) (hfin : (TX7 f).2.2.2 = true) (hdecl : (TX7 f).1 = RX7) (hn : ∀ q : Nat, narrow (tyX7 f) (.ref q) = .ref q) (hfit : ∀ q : Nat, fits (tyX7 f) (.ref q) = true) (hl : f < fs.length) {b : Int} (hb8 : (Int8.ofInt b).toInt32 = nI len)
    (d1 : decode cX7_init pc = .ok (.aload_n 0, 1)) (d2 : decode cX7_init (pc + 1) = .ok (.bipush b, 2)) (d3 : decode cX7_init (pc + 3) = .ok (.newarray .boolean, 2)) (d4 : decode cX7_init (pc + 5) = .ok (.putfield index, 3)) (hcells : cells + 1 ≤ R.cells) (hslots : slots + len ≤ R.slots)
    (kk : ∀ (h1 : db_Mem) (H1 : Heap) (locs1 : List Loc), db_W Γ A H0 h1 H1 locs1 → H1.size = a + 1 + (K + 1) → h1 a = some (.inr (7, fs.set f (.ref (a + 1 + K)))) → (∀ i, i < K + 1 → h1 (a + 1 + i) = some (mm_ar Γ i)) → W p l e R s m args below meth c H1 locs1 (cells + 1) (slots + len) Q (F0 m (pc + 8) ls [])) : W p l e R s m args below meth c H locs cells slots Q (F0 m pc ls []) := by
  obtain ⟨hx, hb, hml, -, -, hown, hts, hK⟩ := id hC
  refine lv_aload_n hx hb d1 rfl hla ?_
  refine lv_bipush hx hb d2 hb8 ?_
  refine db_newZ hx hb hts hK hW wd_550 rfl (by omega) hcells hslots d3 hz (fun H1 hW1 hno hz1 => ?_)
  have fo1 : db_set h (a + 1 + K) (.inl (Γ.2 1, len, .inl (fun _ => 0))) a = some (.inr (7, fs)) := (db_sn (by omega)).trans fo
  have fA1 : ∀ i, i < K + 1 → db_set h (a + 1 + K) (.inl (Γ.2 1, len, .inl (fun _ => 0))) (a + 1 + i) = some (mm_ar Γ i) := by
    intro i hi
    by_cases q : i = K
    · rw [q, har]; exact db_ss
    · exact (db_sn (by omega)).trans (fA i (by omega))
  exact mm_putA hC hin2 hW1 fo1 fA1 f hf hlink hfin hdecl (hn _) (hfit _) hl d4 fun h2 H2 locs2 hW2 hz2 fo2 fA2 => kk h2 H2 locs2 hW2 (by omega) fo2 fA2
end MSTEP
