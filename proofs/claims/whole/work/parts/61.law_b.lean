/-! the law's loop: what stands at its head and at each case -/
theorem lw_per {N : Nat → Nat} {Y : db_X} (h : mm_V N Y) : ∀ j, j < N 0 → ¬ Y 6 0 j = 0 → ¬ Y 7 0 j = 0 := by
  intro j hj z
  obtain ⟨p', w', d', g1, g2, g3, g4, g5, g6, g7⟩ := h j hj z
  rw [g5]
  exact nI_ne0 (by omega) (by omega)
theorem lw_ix {i k L : Nat} {y : Int32} (hy : y = nI k) (h : i + k < L) (hL : L < 2 ^ 31) : vp_in (nI i + y) L := by
  rw [hy, nI_add]
  exact vp_in_nI h hL
def lw_G (p : Program) (l : Launch) (e : Env) (s : State) (m : MethodId) (below : List Frame) (meth : Method) (c : Code) (Γ : db_G) (N : Nat → Nat) (b q i pc : Nat) : Prop :=
  ∀ (Lb Lm : Nat → Nat → Nat) (X Y : db_X) (sz cnt th tm la : Nat) (hB hM : db_Mem) (H : Heap) (locs : List Loc) (cells slots : Nat) (ls : Array Slot), rr N X Y sz cnt th tm la → db_R Lb (bb_ok (N 0) cnt) (bb_cel Γ N Lb) X hB → db_R Lm mm_ok (mm_cel Γ N Lm) Y hM → db_W2 Γ (fun z => s.heap.size ≤ z) s.heap hB hM H locs →
    lv_has ls 4 [(0, .ref b), (1, .ref (Lb 0 0)), (2, .ref (Lm 0 0)), (3, .int (nI i))] → cells + q ≤ 600000 → slots + 5 * q ≤ 7302250 → cnt + q ≤ 1000 → W p l e room_1 s m #[Value.ref b] below meth c H locs cells slots (lw_Z below #[Value.ref b] s) (F0 m pc ls [])
theorem bb_addSec_cnt {N : Nat → Nat} {X : db_X} {sz cnt : Nat} {t b k g : Int32} : (bb_addSec N X sz cnt t b k g).2.2 ≤ cnt + 1 := by
  unfold bb_addSec
  split
  · show cnt ≤ cnt + 1; omega
  · show cnt + 1 ≤ cnt + 1; omega
section LAWD
variable {p : Program} {l : Launch} {e : Env} {s : State} {m : MethodId} {below : List Frame} {meth : Method} {c : Code} {Γ : db_G} {N : Nat → Nat} {b q i L : Nat} {xs : Nat → Int32}

set_option maxHeartbeats 4000000 in
theorem lw_case_addTask (hC : db_Cx p s m #[Value.ref b] meth c Γ RL cL_law 4 (some .boolean)) (hX : va_X b L xs s s.heap) (hbl : b < s.heap.size) (hL31 : L < 2 ^ 31) (hN : bb_N N) (hi : i + 5 ≤ L) (tail : lw_G p l e s m below meth c Γ N b q i 595) : lw_G p l e s m below meth c Γ N b (q + 1) i 164 := by
  intro Lb Lm X Y sz cnt th tm la hB hM H locs cells slots ls h hRb hRm hW hl hc hs hq
  obtain ⟨hx, hb, hml, hr0, hlocks, hown, hts, hK⟩ := id hC
  have hbA : ¬ s.heap.size ≤ b := by omega
  refine lv_aload_n hx hb dL_law_164 rfl (lv_at hl 1 rfl) ?_
  refine lv_aload_n hx hb dL_law_165 rfl (lv_at hl 0 rfl) ?_
  refine lv_iload_n hx hb dL_law_166 rfl (lv_at hl 3 rfl) ?_
  refine lv_iconst (v := 1) hx hb dL_law_167 (by decide) ?_
  refine lv_iadd hx hb dL_law_168 ?_
  refine va_sld hx hb hX hbl hbA hW.1.2.2.1 (lw_ix (k := 1) rfl (by omega) hL31) dL_law_169 ?_
  refine lv_aload_n hx hb dL_law_170 rfl (lv_at hl 0 rfl) ?_
  refine lv_iload_n hx hb dL_law_171 rfl (lv_at hl 3 rfl) ?_
  refine lv_iconst (v := 2) hx hb dL_law_172 (by decide) ?_
  refine lv_iadd hx hb dL_law_173 ?_
  refine va_sld hx hb hX hbl hbA hW.1.2.2.1 (lw_ix (k := 2) rfl (by omega) hL31) dL_law_174 ?_
  refine lv_aload_n hx hb dL_law_175 rfl (lv_at hl 0 rfl) ?_
  refine lv_iload_n hx hb dL_law_176 rfl (lv_at hl 3 rfl) ?_
  refine lv_iconst (v := 3) hx hb dL_law_177 (by decide) ?_
  refine lv_iadd hx hb dL_law_178 ?_
  refine va_sld hx hb hX hbl hbA hW.1.2.2.1 (lw_ix (k := 3) rfl (by omega) hL31) dL_law_179 ?_
  refine lw_call (As := [.int (xs (nI i + 1).toNatClampNeg), .int (xs (nI i + 2).toNatClampNeg), .int (xs (nI i + 3).toNatClampNeg)]) (rest := []) hC hW hRb (bb_k 0 rfl) rfl db_c6 (c_X6_addTask l Γ N Lb cnt X hN (xs (nI i + 1).toNatClampNeg) (xs (nI i + 2).toNatClampNeg) (xs (nI i + 3).toNatClampNeg)) (cw_X6_addTask (Nat.le_of_ble_eq_true rfl) (Nat.le_of_ble_eq_true rfl)) wd_197 wd_198 wd_199 rfl hl.1 rfl (Nat.le_of_ble_eq_true rfl) dL_law_180 ⟨by show cells + 0 ≤ 600000; omega, by show slots + 0 ≤ 7302250; omega⟩ rfl (fun hB H locs hRb hW => ?_)
  refine lv_aload_n hx hb dL_law_183 rfl (lv_at hl 2 rfl) ?_
  refine lv_aload_n hx hb dL_law_184 rfl (lv_at hl 0 rfl) ?_
  refine lv_iload_n hx hb dL_law_185 rfl (lv_at hl 3 rfl) ?_
  refine lv_iconst (v := 1) hx hb dL_law_186 (by decide) ?_
  refine lv_iadd hx hb dL_law_187 ?_
  refine va_sld hx hb hX hbl hbA hW.1.2.2.1 (lw_ix (k := 1) rfl (by omega) hL31) dL_law_188 ?_
  refine lv_aload_n hx hb dL_law_189 rfl (lv_at hl 0 rfl) ?_
  refine lv_iload_n hx hb dL_law_190 rfl (lv_at hl 3 rfl) ?_
  refine lv_iconst (v := 2) hx hb dL_law_191 (by decide) ?_
  refine lv_iadd hx hb dL_law_192 ?_
  refine va_sld hx hb hX hbl hbA hW.1.2.2.1 (lw_ix (k := 2) rfl (by omega) hL31) dL_law_193 ?_
  refine lv_aload_n hx hb dL_law_194 rfl (lv_at hl 0 rfl) ?_
  refine lv_iload_n hx hb dL_law_195 rfl (lv_at hl 3 rfl) ?_
  refine lv_iconst (v := 3) hx hb dL_law_196 (by decide) ?_
  refine lv_iadd hx hb dL_law_197 ?_
  refine va_sld hx hb hX hbl hbA hW.1.2.2.1 (lw_ix (k := 3) rfl (by omega) hL31) dL_law_198 ?_
  have hW := hW.sw
  refine lw_call (As := [.int (xs (nI i + 1).toNatClampNeg), .int (xs (nI i + 2).toNatClampNeg), .int (xs (nI i + 3).toNatClampNeg)]) hC hW hRm (mm_k 0 rfl) rfl db_c7 (c_X7_addTask l Γ N Lm Y hN (xs (nI i + 1).toNatClampNeg) (xs (nI i + 2).toNatClampNeg) (xs (nI i + 3).toNatClampNeg)) (cw_X7_addTask (Nat.le_of_ble_eq_true rfl) (Nat.le_of_ble_eq_true rfl)) wd_551 wd_552 wd_553 rfl hl.1 rfl (Nat.le_of_ble_eq_true rfl) dL_law_199 ⟨by show cells + 0 + 0 ≤ 600000; omega, by show slots + 0 + 0 ≤ 7302250; omega⟩ rfl (fun hM H locs hRm hW => ?_)
  have hW := hW.sw
  obtain ⟨e, hr⟩ := s_addTask hN h (xs (nI i + 1).toNatClampNeg) (xs (nI i + 2).toNatClampNeg) (xs (nI i + 3).toNatClampNeg)
  refine lv_icmp_eq (tgt := 595) hx hb dL_law_202 (by decide) (fun _ => ?_) (fun z => absurd e z)
  exact tail Lb Lm _ _ _ _ _ _ _ hB hM H locs _ _ ls hr hRb hRm hW hl (by show cells + 0 + 0 + q ≤ 600000; omega) (by show slots + 0 + 0 + 5 * q ≤ 7302250; omega) (by show cnt + q ≤ 1000; omega)
set_option maxHeartbeats 4000000 in
theorem lw_case_addSection (hC : db_Cx p s m #[Value.ref b] meth c Γ RL cL_law 4 (some .boolean)) (hX : va_X b L xs s s.heap) (hbl : b < s.heap.size) (hL31 : L < 2 ^ 31) (hN : bb_N N) (hi : i + 5 ≤ L) (tail : lw_G p l e s m below meth c Γ N b q i 595) : lw_G p l e s m below meth c Γ N b (q + 1) i 207 := by
  intro Lb Lm X Y sz cnt th tm la hB hM H locs cells slots ls h hRb hRm hW hl hc hs hq
  obtain ⟨hx, hb, hml, hr0, hlocks, hown, hts, hK⟩ := id hC
  have hbA : ¬ s.heap.size ≤ b := by omega
  refine lv_aload_n hx hb dL_law_207 rfl (lv_at hl 1 rfl) ?_
  refine lv_aload_n hx hb dL_law_208 rfl (lv_at hl 0 rfl) ?_
  refine lv_iload_n hx hb dL_law_209 rfl (lv_at hl 3 rfl) ?_
  refine lv_iconst (v := 1) hx hb dL_law_210 (by decide) ?_
  refine lv_iadd hx hb dL_law_211 ?_
  refine va_sld hx hb hX hbl hbA hW.1.2.2.1 (lw_ix (k := 1) rfl (by omega) hL31) dL_law_212 ?_
  refine lv_aload_n hx hb dL_law_213 rfl (lv_at hl 0 rfl) ?_
  refine lv_iload_n hx hb dL_law_214 rfl (lv_at hl 3 rfl) ?_
  refine lv_iconst (v := 2) hx hb dL_law_215 (by decide) ?_
  refine lv_iadd hx hb dL_law_216 ?_
  refine va_sld hx hb hX hbl hbA hW.1.2.2.1 (lw_ix (k := 2) rfl (by omega) hL31) dL_law_217 ?_
  refine lv_aload_n hx hb dL_law_218 rfl (lv_at hl 0 rfl) ?_
  refine lv_iload_n hx hb dL_law_219 rfl (lv_at hl 3 rfl) ?_
  refine lv_iconst (v := 3) hx hb dL_law_220 (by decide) ?_
  refine lv_iadd hx hb dL_law_221 ?_
  refine va_sld hx hb hX hbl hbA hW.1.2.2.1 (lw_ix (k := 3) rfl (by omega) hL31) dL_law_222 ?_
  refine lv_aload_n hx hb dL_law_223 rfl (lv_at hl 0 rfl) ?_
  refine lv_iload_n hx hb dL_law_224 rfl (lv_at hl 3 rfl) ?_
  refine lv_iconst (v := 4) hx hb dL_law_225 (by decide) ?_
  refine lv_iadd hx hb dL_law_226 ?_
  refine va_sld hx hb hX hbl hbA hW.1.2.2.1 (lw_ix (k := 4) rfl (by omega) hL31) dL_law_227 ?_
  refine lw_callN (As := [.int (xs (nI i + 1).toNatClampNeg), .int (xs (nI i + 2).toNatClampNeg), .int (xs (nI i + 3).toNatClampNeg), .int (xs (nI i + 4).toNatClampNeg)]) (rest := []) hC hW (hRb.1 0 0 (bb_k 0 rfl)) db_c6 (n_X6_addSection l Γ N Lb cnt X hN (xs (nI i + 1).toNatClampNeg) (xs (nI i + 2).toNatClampNeg) (xs (nI i + 3).toNatClampNeg) (xs (nI i + 4).toNatClampNeg) sz h.bI (by omega) (by omega) h.rw hB hRb H.size) (cw_X6_addSection (Nat.le_of_ble_eq_true rfl) (Nat.le_of_ble_eq_true rfl)) wd_205 wd_206 wd_207 rfl hl.1 rfl (Nat.le_of_ble_eq_true rfl) dL_law_228 ⟨by show cells + 1 ≤ 600000; omega, by show slots + 5 ≤ 7302250; omega⟩ (fun v hB H locs hP hW => ?_)
  obtain ⟨Lb1, rfl, hRb, hLb⟩ := hP
  have hl : lv_has ls 4 [(0, .ref b), (1, .ref (Lb1 0 0)), (2, .ref (Lm 0 0)), (3, .int (nI i))] := by rw [hLb 0 0 (by decide)]; exact hl
  refine lv_aload_n hx hb dL_law_231 rfl (lv_at hl 2 rfl) ?_
  refine lv_aload_n hx hb dL_law_232 rfl (lv_at hl 0 rfl) ?_
  refine lv_iload_n hx hb dL_law_233 rfl (lv_at hl 3 rfl) ?_
  refine lv_iconst (v := 1) hx hb dL_law_234 (by decide) ?_
  refine lv_iadd hx hb dL_law_235 ?_
  refine va_sld hx hb hX hbl hbA hW.1.2.2.1 (lw_ix (k := 1) rfl (by omega) hL31) dL_law_236 ?_
  refine lv_aload_n hx hb dL_law_237 rfl (lv_at hl 0 rfl) ?_
  refine lv_iload_n hx hb dL_law_238 rfl (lv_at hl 3 rfl) ?_
  refine lv_iconst (v := 2) hx hb dL_law_239 (by decide) ?_
  refine lv_iadd hx hb dL_law_240 ?_
  refine va_sld hx hb hX hbl hbA hW.1.2.2.1 (lw_ix (k := 2) rfl (by omega) hL31) dL_law_241 ?_
  refine lv_aload_n hx hb dL_law_242 rfl (lv_at hl 0 rfl) ?_
  refine lv_iload_n hx hb dL_law_243 rfl (lv_at hl 3 rfl) ?_
  refine lv_iconst (v := 3) hx hb dL_law_244 (by decide) ?_
  refine lv_iadd hx hb dL_law_245 ?_
  refine va_sld hx hb hX hbl hbA hW.1.2.2.1 (lw_ix (k := 3) rfl (by omega) hL31) dL_law_246 ?_
  refine lv_aload_n hx hb dL_law_247 rfl (lv_at hl 0 rfl) ?_
  refine lv_iload_n hx hb dL_law_248 rfl (lv_at hl 3 rfl) ?_
  refine lv_iconst (v := 4) hx hb dL_law_249 (by decide) ?_
  refine lv_iadd hx hb dL_law_250 ?_
  refine va_sld hx hb hX hbl hbA hW.1.2.2.1 (lw_ix (k := 4) rfl (by omega) hL31) dL_law_251 ?_
  have hW := hW.sw
  refine lw_call (As := [.int (xs (nI i + 1).toNatClampNeg), .int (xs (nI i + 2).toNatClampNeg), .int (xs (nI i + 3).toNatClampNeg), .int (xs (nI i + 4).toNatClampNeg)]) hC hW hRm (mm_k 0 rfl) rfl db_c7 (c_X7_addSection l Γ N Lm Y hN (xs (nI i + 1).toNatClampNeg) (xs (nI i + 2).toNatClampNeg) (xs (nI i + 3).toNatClampNeg) (xs (nI i + 4).toNatClampNeg) sz h.mI) (cw_X7_addSection (Nat.le_of_ble_eq_true rfl) (Nat.le_of_ble_eq_true rfl)) wd_555 wd_556 wd_557 rfl hl.1 rfl (Nat.le_of_ble_eq_true rfl) dL_law_252 ⟨by show cells + 1 + 0 ≤ 600000; omega, by show slots + 5 + 0 ≤ 7302250; omega⟩ rfl (fun hM H locs hRm hW => ?_)
  have hW := hW.sw
  obtain ⟨e, sz1, hr⟩ := s_addSection hN h (by omega) (xs (nI i + 1).toNatClampNeg) (xs (nI i + 2).toNatClampNeg) (xs (nI i + 3).toNatClampNeg) (xs (nI i + 4).toNatClampNeg)
  refine lv_icmp_eq (tgt := 595) hx hb dL_law_255 (by decide) (fun _ => ?_) (fun z => absurd e z)
  exact tail Lb1 Lm _ _ _ _ _ _ _ hB hM H locs _ _ ls hr hRb hRm hW hl (by show cells + 1 + 0 + q ≤ 600000; omega) (by show slots + 5 + 0 + 5 * q ≤ 7302250; omega) (by have := bb_addSec_cnt (N := N) (X := X) (sz := sz) (cnt := cnt) (t := (xs (nI i + 1).toNatClampNeg)) (b := (xs (nI i + 2).toNatClampNeg)) (k := (xs (nI i + 3).toNatClampNeg)) (g := (xs (nI i + 4).toNatClampNeg)); omega)
set_option maxHeartbeats 4000000 in
theorem lw_case_removeTask (hC : db_Cx p s m #[Value.ref b] meth c Γ RL cL_law 4 (some .boolean)) (hX : va_X b L xs s s.heap) (hbl : b < s.heap.size) (hL31 : L < 2 ^ 31) (hN : bb_N N) (hi : i + 5 ≤ L) (tail : lw_G p l e s m below meth c Γ N b q i 595) : lw_G p l e s m below meth c Γ N b (q + 1) i 260 := by
  intro Lb Lm X Y sz cnt th tm la hB hM H locs cells slots ls h hRb hRm hW hl hc hs hq
  obtain ⟨hx, hb, hml, hr0, hlocks, hown, hts, hK⟩ := id hC
  have hbA : ¬ s.heap.size ≤ b := by omega
  refine lv_aload_n hx hb dL_law_260 rfl (lv_at hl 1 rfl) ?_
  refine lv_aload_n hx hb dL_law_261 rfl (lv_at hl 0 rfl) ?_
  refine lv_iload_n hx hb dL_law_262 rfl (lv_at hl 3 rfl) ?_
  refine lv_iconst (v := 1) hx hb dL_law_263 (by decide) ?_
  refine lv_iadd hx hb dL_law_264 ?_
  refine va_sld hx hb hX hbl hbA hW.1.2.2.1 (lw_ix (k := 1) rfl (by omega) hL31) dL_law_265 ?_
  refine lw_call (As := [.int (xs (nI i + 1).toNatClampNeg)]) (rest := []) hC hW hRb (bb_k 0 rfl) rfl db_c6 (c_X6_removeTask l Γ N Lb cnt X hN (xs (nI i + 1).toNatClampNeg) sz h.bI (by omega)) (cw_X6_removeTask (Nat.le_of_ble_eq_true rfl) (Nat.le_of_ble_eq_true rfl)) wd_264 wd_265 wd_266 rfl hl.1 rfl (Nat.le_of_ble_eq_true rfl) dL_law_266 ⟨by show cells + 0 ≤ 600000; omega, by show slots + 0 ≤ 7302250; omega⟩ rfl (fun hB H locs hRb hW => ?_)
  refine lv_aload_n hx hb dL_law_269 rfl (lv_at hl 2 rfl) ?_
  refine lv_aload_n hx hb dL_law_270 rfl (lv_at hl 0 rfl) ?_
  refine lv_iload_n hx hb dL_law_271 rfl (lv_at hl 3 rfl) ?_
  refine lv_iconst (v := 1) hx hb dL_law_272 (by decide) ?_
  refine lv_iadd hx hb dL_law_273 ?_
  refine va_sld hx hb hX hbl hbA hW.1.2.2.1 (lw_ix (k := 1) rfl (by omega) hL31) dL_law_274 ?_
  have hW := hW.sw
  refine lw_call (As := [.int (xs (nI i + 1).toNatClampNeg)]) hC hW hRm (mm_k 0 rfl) rfl db_c7 (c_X7_removeTask l Γ N Lm Y hN (xs (nI i + 1).toNatClampNeg) sz h.mI) (cw_X7_removeTask (Nat.le_of_ble_eq_true rfl) (Nat.le_of_ble_eq_true rfl)) wd_571 wd_572 wd_573 rfl hl.1 rfl (Nat.le_of_ble_eq_true rfl) dL_law_275 ⟨by show cells + 0 + 0 ≤ 600000; omega, by show slots + 0 + 0 ≤ 7302250; omega⟩ rfl (fun hM H locs hRm hW => ?_)
  have hW := hW.sw
  obtain ⟨e, sz1, hr⟩ := s_remove hN h (by omega) (xs (nI i + 1).toNatClampNeg)
  refine lv_icmp_eq (tgt := 595) hx hb dL_law_278 (by decide) (fun _ => ?_) (fun z => absurd e z)
  exact tail Lb Lm _ _ _ _ _ _ _ hB hM H locs _ _ ls hr hRb hRm hW hl (by show cells + 0 + 0 + q ≤ 600000; omega) (by show slots + 0 + 0 + 5 * q ≤ 7302250; omega) (by show cnt + q ≤ 1000; omega)
set_option maxHeartbeats 4000000 in
theorem lw_case_admissible (hC : db_Cx p s m #[Value.ref b] meth c Γ RL cL_law 4 (some .boolean)) (hX : va_X b L xs s s.heap) (hbl : b < s.heap.size) (hL31 : L < 2 ^ 31) (hN : bb_N N) (hi : i + 5 ≤ L) (tail : lw_G p l e s m below meth c Γ N b q i 595) : lw_G p l e s m below meth c Γ N b (q + 1) i 283 := by
  intro Lb Lm X Y sz cnt th tm la hB hM H locs cells slots ls h hRb hRm hW hl hc hs hq
  obtain ⟨hx, hb, hml, hr0, hlocks, hown, hts, hK⟩ := id hC
  have hbA : ¬ s.heap.size ≤ b := by omega
  refine lv_aload_n hx hb dL_law_283 rfl (lv_at hl 1 rfl) ?_
  refine lw_call (As := []) (rest := []) hC hW hRb (bb_k 0 rfl) rfl db_c6 (c_X6_admissible l Γ N Lb cnt X hN la h.la.1 h.la.2.2 h.v) (cw_X6_admissible (Nat.le_of_ble_eq_true rfl) (Nat.le_of_ble_eq_true rfl)) wd_292 wd_293 wd_294 rfl hl.1 rfl (Nat.le_of_ble_eq_true rfl) dL_law_284 ⟨by show cells + 0 ≤ 600000; omega, by show slots + 0 ≤ 7302250; omega⟩ rfl (fun hB H locs hRb hW => ?_)
  refine lv_aload_n hx hb dL_law_287 rfl (lv_at hl 2 rfl) ?_
  have hW := hW.sw
  refine lw_call (As := []) hC hW hRm (mm_k 0 rfl) rfl db_c7 (c_X7_admissible l Γ N Lm Y hN la h.yla (by have := h.la.2.2; omega) (lw_per h.mV)) (cw_X7_admissible (Nat.le_of_ble_eq_true rfl) (Nat.le_of_ble_eq_true rfl)) wd_595 wd_596 wd_597 rfl hl.1 rfl (Nat.le_of_ble_eq_true rfl) dL_law_288 ⟨by show cells + 0 + 0 ≤ 600000; omega, by show slots + 0 + 0 ≤ 7302250; omega⟩ rfl (fun hM H locs hRm hW => ?_)
  have hW := hW.sw
  have e := s_admissible hN h
  refine lv_icmp_eq (tgt := 595) hx hb dL_law_291 (by decide) (fun _ => ?_) (fun z => absurd e z)
  exact tail Lb Lm _ _ _ _ _ _ _ hB hM H locs _ _ ls h hRb hRm hW hl (by show cells + 0 + 0 + q ≤ 600000; omega) (by show slots + 0 + 0 + 5 * q ≤ 7302250; omega) (by show cnt + q ≤ 1000; omega)
set_option maxHeartbeats 4000000 in
theorem lw_case_tick (hC : db_Cx p s m #[Value.ref b] meth c Γ RL cL_law 4 (some .boolean)) (hX : va_X b L xs s s.heap) (hbl : b < s.heap.size) (hL31 : L < 2 ^ 31) (hN : bb_N N) (hi : i + 5 ≤ L) (tail : lw_G p l e s m below meth c Γ N b q i 595) : lw_G p l e s m below meth c Γ N b (q + 1) i 296 := by
  intro Lb Lm X Y sz cnt th tm la hB hM H locs cells slots ls h hRb hRm hW hl hc hs hq
  obtain ⟨hx, hb, hml, hr0, hlocks, hown, hts, hK⟩ := id hC
  have hbA : ¬ s.heap.size ≤ b := by omega
  refine lv_aload_n hx hb dL_law_296 rfl (lv_at hl 1 rfl) ?_
  refine lw_call (As := []) (rest := []) hC hW hRb (bb_k 0 rfl) rfl db_c6 (c_X6_tick l Γ N Lb cnt X hN sz tm th h.bI (by omega) h.tm.1 (by have := h.tmb; omega) h.th.2.1 (by have := h.thb; omega)) (cw_X6_tick (Nat.le_of_ble_eq_true rfl) (Nat.le_of_ble_eq_true rfl)) wd_300 wd_301 wd_302 rfl hl.1 rfl (Nat.le_of_ble_eq_true rfl) dL_law_297 ⟨by show cells + 0 ≤ 600000; omega, by show slots + 0 ≤ 7302250; omega⟩ rfl (fun hB H locs hRb hW => ?_)
  refine lv_aload_n hx hb dL_law_300 rfl (lv_at hl 2 rfl) ?_
  have hW := hW.sw
  refine lw_call (As := []) hC hW hRm (mm_k 0 rfl) rfl db_c7 (c_X7_tick l Γ N Lm Y hN sz tm th h.mI h.ytm (by have := h.tmb; omega) h.yth (by have := h.thb; omega)) (cw_X7_tick (Nat.le_of_ble_eq_true rfl) (Nat.le_of_ble_eq_true rfl)) wd_599 wd_600 wd_601 rfl hl.1 rfl (Nat.le_of_ble_eq_true rfl) dL_law_301 ⟨by show cells + 0 + 0 ≤ 600000; omega, by show slots + 0 + 0 ≤ 7302250; omega⟩ rfl (fun hM H locs hRm hW => ?_)
  have hW := hW.sw
  obtain ⟨e, th1, tm1, hr⟩ := s_tick hN h
  refine lv_icmp_eq (tgt := 595) hx hb dL_law_304 (by decide) (fun _ => ?_) (fun z => absurd e z)
  exact tail Lb Lm _ _ _ _ _ _ _ hB hM H locs _ _ ls hr hRb hRm hW hl (by show cells + 0 + 0 + q ≤ 600000; omega) (by show slots + 0 + 0 + 5 * q ≤ 7302250; omega) (by show cnt + q ≤ 1000; omega)
set_option maxHeartbeats 4000000 in
theorem lw_case_run (hC : db_Cx p s m #[Value.ref b] meth c Γ RL cL_law 4 (some .boolean)) (hX : va_X b L xs s s.heap) (hbl : b < s.heap.size) (hL31 : L < 2 ^ 31) (hN : bb_N N) (hi : i + 5 ≤ L) (tail : lw_G p l e s m below meth c Γ N b q i 595) : lw_G p l e s m below meth c Γ N b (q + 1) i 309 := by
  intro Lb Lm X Y sz cnt th tm la hB hM H locs cells slots ls h hRb hRm hW hl hc hs hq
  obtain ⟨hx, hb, hml, hr0, hlocks, hown, hts, hK⟩ := id hC
  have hbA : ¬ s.heap.size ≤ b := by omega
  refine lv_aload_n hx hb dL_law_309 rfl (lv_at hl 1 rfl) ?_
  refine lv_aload_n hx hb dL_law_310 rfl (lv_at hl 0 rfl) ?_
  refine lv_iload_n hx hb dL_law_311 rfl (lv_at hl 3 rfl) ?_
  refine lv_iconst (v := 1) hx hb dL_law_312 (by decide) ?_
  refine lv_iadd hx hb dL_law_313 ?_
  refine va_sld hx hb hX hbl hbA hW.1.2.2.1 (lw_ix (k := 1) rfl (by omega) hL31) dL_law_314 ?_
  refine lw_call (As := [.int (xs (nI i + 1).toNatClampNeg)]) (rest := []) hC hW hRb (bb_k 0 rfl) rfl db_c6 (c_X6_run l Γ N Lb cnt X hN (xs (nI i + 1).toNatClampNeg) sz tm th h.bI (by omega) h.tm.1 h.tmb h.th.2.1 h.thb) (cw_X6_run (Nat.le_of_ble_eq_true rfl) (Nat.le_of_ble_eq_true rfl)) wd_353 wd_354 wd_355 rfl hl.1 rfl (Nat.le_of_ble_eq_true rfl) dL_law_315 ⟨by show cells + 0 ≤ 600000; omega, by show slots + 0 ≤ 7302250; omega⟩ rfl (fun hB H locs hRb hW => ?_)
  refine lv_aload_n hx hb dL_law_318 rfl (lv_at hl 2 rfl) ?_
  refine lv_aload_n hx hb dL_law_319 rfl (lv_at hl 0 rfl) ?_
  refine lv_iload_n hx hb dL_law_320 rfl (lv_at hl 3 rfl) ?_
  refine lv_iconst (v := 1) hx hb dL_law_321 (by decide) ?_
  refine lv_iadd hx hb dL_law_322 ?_
  refine va_sld hx hb hX hbl hbA hW.1.2.2.1 (lw_ix (k := 1) rfl (by omega) hL31) dL_law_323 ?_
  have hW := hW.sw
  refine lw_call (As := [.int (xs (nI i + 1).toNatClampNeg)]) hC hW hRm (mm_k 0 rfl) rfl db_c7 (c_X7_run l Γ N Lm Y hN (xs (nI i + 1).toNatClampNeg) sz tm th h.mI h.ytm h.tmb h.yth h.thb) (cw_X7_run (Nat.le_of_ble_eq_true rfl) (Nat.le_of_ble_eq_true rfl)) wd_635 wd_636 wd_637 rfl hl.1 rfl (Nat.le_of_ble_eq_true rfl) dL_law_324 ⟨by show cells + 0 + 0 ≤ 600000; omega, by show slots + 0 + 0 ≤ 7302250; omega⟩ rfl (fun hM H locs hRm hW => ?_)
  have hW := hW.sw
  obtain ⟨e, th1, tm1, hr⟩ := s_run hN h (xs (nI i + 1).toNatClampNeg)
  refine lv_icmp_eq (tgt := 595) hx hb dL_law_327 (by decide) (fun _ => ?_) (fun z => absurd e z)
  exact tail Lb Lm _ _ _ _ _ _ _ hB hM H locs _ _ ls hr hRb hRm hW hl (by show cells + 0 + 0 + q ≤ 600000; omega) (by show slots + 0 + 0 + 5 * q ≤ 7302250; omega) (by show cnt + q ≤ 1000; omega)
set_option maxHeartbeats 4000000 in
theorem lw_case_ran (hC : db_Cx p s m #[Value.ref b] meth c Γ RL cL_law 4 (some .boolean)) (hX : va_X b L xs s s.heap) (hbl : b < s.heap.size) (hL31 : L < 2 ^ 31) (hN : bb_N N) (hi : i + 5 ≤ L) (tail : lw_G p l e s m below meth c Γ N b q i 595) : lw_G p l e s m below meth c Γ N b (q + 1) i 332 := by
  intro Lb Lm X Y sz cnt th tm la hB hM H locs cells slots ls h hRb hRm hW hl hc hs hq
  obtain ⟨hx, hb, hml, hr0, hlocks, hown, hts, hK⟩ := id hC
  have hbA : ¬ s.heap.size ≤ b := by omega
  refine lv_aload_n hx hb dL_law_332 rfl (lv_at hl 1 rfl) ?_
  refine lv_aload_n hx hb dL_law_333 rfl (lv_at hl 0 rfl) ?_
  refine lv_iload_n hx hb dL_law_334 rfl (lv_at hl 3 rfl) ?_
  refine lv_iconst (v := 1) hx hb dL_law_335 (by decide) ?_
  refine lv_iadd hx hb dL_law_336 ?_
  refine va_sld hx hb hX hbl hbA hW.1.2.2.1 (lw_ix (k := 1) rfl (by omega) hL31) dL_law_337 ?_
  refine lw_call (As := [.int (xs (nI i + 1).toNatClampNeg)]) (rest := []) hC hW hRb (bb_k 0 rfl) rfl db_c6 (c_X6_ran l Γ N Lb cnt X hN (xs (nI i + 1).toNatClampNeg) th h.th.2.1 (by have := h.thb; omega)) (cw_X6_ran (Nat.le_of_ble_eq_true rfl) (Nat.le_of_ble_eq_true rfl)) wd_357 wd_358 wd_359 rfl hl.1 rfl (Nat.le_of_ble_eq_true rfl) dL_law_338 ⟨by show cells + 0 ≤ 600000; omega, by show slots + 0 ≤ 7302250; omega⟩ rfl (fun hB H locs hRb hW => ?_)
  refine lv_aload_n hx hb dL_law_341 rfl (lv_at hl 2 rfl) ?_
  refine lv_aload_n hx hb dL_law_342 rfl (lv_at hl 0 rfl) ?_
  refine lv_iload_n hx hb dL_law_343 rfl (lv_at hl 3 rfl) ?_
  refine lv_iconst (v := 1) hx hb dL_law_344 (by decide) ?_
  refine lv_iadd hx hb dL_law_345 ?_
  refine va_sld hx hb hX hbl hbA hW.1.2.2.1 (lw_ix (k := 1) rfl (by omega) hL31) dL_law_346 ?_
  have hW := hW.sw
  refine lw_call (As := [.int (xs (nI i + 1).toNatClampNeg)]) hC hW hRm (mm_k 0 rfl) rfl db_c7 (c_X7_ran l Γ N Lm Y hN (xs (nI i + 1).toNatClampNeg) th h.yth (by have := h.thb; omega)) (cw_X7_ran (Nat.le_of_ble_eq_true rfl) (Nat.le_of_ble_eq_true rfl)) wd_639 wd_640 wd_641 rfl hl.1 rfl (Nat.le_of_ble_eq_true rfl) dL_law_347 ⟨by show cells + 0 + 0 ≤ 600000; omega, by show slots + 0 + 0 ≤ 7302250; omega⟩ rfl (fun hM H locs hRm hW => ?_)
  have hW := hW.sw
  have e := s_ran h (xs (nI i + 1).toNatClampNeg)
  refine lv_icmp_eq (tgt := 595) hx hb dL_law_350 (by decide) (fun _ => ?_) (fun z => absurd e z)
  exact tail Lb Lm _ _ _ _ _ _ _ hB hM H locs _ _ ls h hRb hRm hW hl (by show cells + 0 + 0 + q ≤ 600000; omega) (by show slots + 0 + 0 + 5 * q ≤ 7302250; omega) (by show cnt + q ≤ 1000; omega)
set_option maxHeartbeats 4000000 in
theorem lw_case_remaining (hC : db_Cx p s m #[Value.ref b] meth c Γ RL cL_law 4 (some .boolean)) (hX : va_X b L xs s s.heap) (hbl : b < s.heap.size) (hL31 : L < 2 ^ 31) (hN : bb_N N) (hi : i + 5 ≤ L) (tail : lw_G p l e s m below meth c Γ N b q i 595) : lw_G p l e s m below meth c Γ N b (q + 1) i 355 := by
  intro Lb Lm X Y sz cnt th tm la hB hM H locs cells slots ls h hRb hRm hW hl hc hs hq
  obtain ⟨hx, hb, hml, hr0, hlocks, hown, hts, hK⟩ := id hC
  have hbA : ¬ s.heap.size ≤ b := by omega
  refine lv_aload_n hx hb dL_law_355 rfl (lv_at hl 1 rfl) ?_
  refine lv_aload_n hx hb dL_law_356 rfl (lv_at hl 0 rfl) ?_
  refine lv_iload_n hx hb dL_law_357 rfl (lv_at hl 3 rfl) ?_
  refine lv_iconst (v := 1) hx hb dL_law_358 (by decide) ?_
  refine lv_iadd hx hb dL_law_359 ?_
  refine va_sld hx hb hX hbl hbA hW.1.2.2.1 (lw_ix (k := 1) rfl (by omega) hL31) dL_law_360 ?_
  refine lw_call (As := [.int (xs (nI i + 1).toNatClampNeg)]) (rest := []) hC hW hRb (bb_k 0 rfl) rfl db_c6 (c_X6_remaining l Γ N Lb cnt X hN (xs (nI i + 1).toNatClampNeg)) (cw_X6_remaining (Nat.le_of_ble_eq_true rfl) (Nat.le_of_ble_eq_true rfl)) wd_365 wd_366 wd_367 rfl hl.1 rfl (Nat.le_of_ble_eq_true rfl) dL_law_361 ⟨by show cells + 0 ≤ 600000; omega, by show slots + 0 ≤ 7302250; omega⟩ rfl (fun hB H locs hRb hW => ?_)
  refine lv_aload_n hx hb dL_law_364 rfl (lv_at hl 2 rfl) ?_
  refine lv_aload_n hx hb dL_law_365 rfl (lv_at hl 0 rfl) ?_
  refine lv_iload_n hx hb dL_law_366 rfl (lv_at hl 3 rfl) ?_
  refine lv_iconst (v := 1) hx hb dL_law_367 (by decide) ?_
  refine lv_iadd hx hb dL_law_368 ?_
  refine va_sld hx hb hX hbl hbA hW.1.2.2.1 (lw_ix (k := 1) rfl (by omega) hL31) dL_law_369 ?_
  have hW := hW.sw
  refine lw_call (As := [.int (xs (nI i + 1).toNatClampNeg)]) hC hW hRm (mm_k 0 rfl) rfl db_c7 (c_X7_remaining l Γ N Lm Y hN (xs (nI i + 1).toNatClampNeg)) (cw_X7_remaining (Nat.le_of_ble_eq_true rfl) (Nat.le_of_ble_eq_true rfl)) wd_643 wd_644 wd_645 rfl hl.1 rfl (Nat.le_of_ble_eq_true rfl) dL_law_370 ⟨by show cells + 0 + 0 ≤ 600000; omega, by show slots + 0 + 0 ≤ 7302250; omega⟩ rfl (fun hM H locs hRm hW => ?_)
  have hW := hW.sw
  have e := s_remaining hN h (xs (nI i + 1).toNatClampNeg)
  refine lv_icmp_eq (tgt := 595) hx hb dL_law_373 (by decide) (fun _ => ?_) (fun z => absurd e z)
  exact tail Lb Lm _ _ _ _ _ _ _ hB hM H locs _ _ ls h hRb hRm hW hl (by show cells + 0 + 0 + q ≤ 600000; omega) (by show slots + 0 + 0 + 5 * q ≤ 7302250; omega) (by show cnt + q ≤ 1000; omega)
set_option maxHeartbeats 4000000 in
theorem lw_case_deadlineOf (hC : db_Cx p s m #[Value.ref b] meth c Γ RL cL_law 4 (some .boolean)) (hX : va_X b L xs s s.heap) (hbl : b < s.heap.size) (hL31 : L < 2 ^ 31) (hN : bb_N N) (hi : i + 5 ≤ L) (tail : lw_G p l e s m below meth c Γ N b q i 595) : lw_G p l e s m below meth c Γ N b (q + 1) i 378 := by
  intro Lb Lm X Y sz cnt th tm la hB hM H locs cells slots ls h hRb hRm hW hl hc hs hq
  obtain ⟨hx, hb, hml, hr0, hlocks, hown, hts, hK⟩ := id hC
  have hbA : ¬ s.heap.size ≤ b := by omega
  refine lv_aload_n hx hb dL_law_378 rfl (lv_at hl 1 rfl) ?_
  refine lv_aload_n hx hb dL_law_379 rfl (lv_at hl 0 rfl) ?_
  refine lv_iload_n hx hb dL_law_380 rfl (lv_at hl 3 rfl) ?_
  refine lv_iconst (v := 1) hx hb dL_law_381 (by decide) ?_
  refine lv_iadd hx hb dL_law_382 ?_
  refine va_sld hx hb hX hbl hbA hW.1.2.2.1 (lw_ix (k := 1) rfl (by omega) hL31) dL_law_383 ?_
  refine lw_call (As := [.int (xs (nI i + 1).toNatClampNeg)]) (rest := []) hC hW hRb (bb_k 0 rfl) rfl db_c6 (c_X6_deadlineOf l Γ N Lb cnt X hN (xs (nI i + 1).toNatClampNeg)) (cw_X6_deadlineOf (Nat.le_of_ble_eq_true rfl) (Nat.le_of_ble_eq_true rfl)) wd_373 wd_374 wd_375 rfl hl.1 rfl (Nat.le_of_ble_eq_true rfl) dL_law_384 ⟨by show cells + 0 ≤ 600000; omega, by show slots + 0 ≤ 7302250; omega⟩ rfl (fun hB H locs hRb hW => ?_)
  refine lv_aload_n hx hb dL_law_387 rfl (lv_at hl 2 rfl) ?_
  refine lv_aload_n hx hb dL_law_388 rfl (lv_at hl 0 rfl) ?_
  refine lv_iload_n hx hb dL_law_389 rfl (lv_at hl 3 rfl) ?_
  refine lv_iconst (v := 1) hx hb dL_law_390 (by decide) ?_
  refine lv_iadd hx hb dL_law_391 ?_
  refine va_sld hx hb hX hbl hbA hW.1.2.2.1 (lw_ix (k := 1) rfl (by omega) hL31) dL_law_392 ?_
  have hW := hW.sw
  refine lw_call (As := [.int (xs (nI i + 1).toNatClampNeg)]) hC hW hRm (mm_k 0 rfl) rfl db_c7 (c_X7_deadlineOf l Γ N Lm Y hN (xs (nI i + 1).toNatClampNeg)) (cw_X7_deadlineOf (Nat.le_of_ble_eq_true rfl) (Nat.le_of_ble_eq_true rfl)) wd_647 wd_648 wd_649 rfl hl.1 rfl (Nat.le_of_ble_eq_true rfl) dL_law_393 ⟨by show cells + 0 + 0 ≤ 600000; omega, by show slots + 0 + 0 ≤ 7302250; omega⟩ rfl (fun hM H locs hRm hW => ?_)
  have hW := hW.sw
  have e := s_deadlineOf hN h (xs (nI i + 1).toNatClampNeg)
  refine lv_icmp_eq (tgt := 595) hx hb dL_law_396 (by decide) (fun _ => ?_) (fun z => absurd e z)
  exact tail Lb Lm _ _ _ _ _ _ _ hB hM H locs _ _ ls h hRb hRm hW hl (by show cells + 0 + 0 + q ≤ 600000; omega) (by show slots + 0 + 0 + 5 * q ≤ 7302250; omega) (by show cnt + q ≤ 1000; omega)
set_option maxHeartbeats 4000000 in
theorem lw_case_effective (hC : db_Cx p s m #[Value.ref b] meth c Γ RL cL_law 4 (some .boolean)) (hX : va_X b L xs s s.heap) (hbl : b < s.heap.size) (hL31 : L < 2 ^ 31) (hN : bb_N N) (hi : i + 5 ≤ L) (tail : lw_G p l e s m below meth c Γ N b q i 595) : lw_G p l e s m below meth c Γ N b (q + 1) i 401 := by
  intro Lb Lm X Y sz cnt th tm la hB hM H locs cells slots ls h hRb hRm hW hl hc hs hq
  obtain ⟨hx, hb, hml, hr0, hlocks, hown, hts, hK⟩ := id hC
  have hbA : ¬ s.heap.size ≤ b := by omega
  refine lv_aload_n hx hb dL_law_401 rfl (lv_at hl 1 rfl) ?_
  refine lv_aload_n hx hb dL_law_402 rfl (lv_at hl 0 rfl) ?_
  refine lv_iload_n hx hb dL_law_403 rfl (lv_at hl 3 rfl) ?_
  refine lv_iconst (v := 1) hx hb dL_law_404 (by decide) ?_
  refine lv_iadd hx hb dL_law_405 ?_
  refine va_sld hx hb hX hbl hbA hW.1.2.2.1 (lw_ix (k := 1) rfl (by omega) hL31) dL_law_406 ?_
  refine lw_call (As := [.int (xs (nI i + 1).toNatClampNeg)]) (rest := []) hC hW hRb (bb_k 0 rfl) rfl db_c6 (c_X6_effective l Γ N Lb cnt X hN (xs (nI i + 1).toNatClampNeg) sz h.bI) (cw_X6_effective (Nat.le_of_ble_eq_true rfl) (Nat.le_of_ble_eq_true rfl)) wd_377 wd_378 wd_379 rfl hl.1 rfl (Nat.le_of_ble_eq_true rfl) dL_law_407 ⟨by show cells + 0 ≤ 600000; omega, by show slots + 0 ≤ 7302250; omega⟩ rfl (fun hB H locs hRb hW => ?_)
  refine lv_aload_n hx hb dL_law_410 rfl (lv_at hl 2 rfl) ?_
  refine lv_aload_n hx hb dL_law_411 rfl (lv_at hl 0 rfl) ?_
  refine lv_iload_n hx hb dL_law_412 rfl (lv_at hl 3 rfl) ?_
  refine lv_iconst (v := 1) hx hb dL_law_413 (by decide) ?_
  refine lv_iadd hx hb dL_law_414 ?_
  refine va_sld hx hb hX hbl hbA hW.1.2.2.1 (lw_ix (k := 1) rfl (by omega) hL31) dL_law_415 ?_
  have hW := hW.sw
  refine lw_call (As := [.int (xs (nI i + 1).toNatClampNeg)]) hC hW hRm (mm_k 0 rfl) rfl db_c7 (c_X7_effective l Γ N Lm Y hN (xs (nI i + 1).toNatClampNeg) sz h.mI) (cw_X7_effective (Nat.le_of_ble_eq_true rfl) (Nat.le_of_ble_eq_true rfl)) wd_651 wd_652 wd_653 rfl hl.1 rfl (Nat.le_of_ble_eq_true rfl) dL_law_416 ⟨by show cells + 0 + 0 ≤ 600000; omega, by show slots + 0 + 0 ≤ 7302250; omega⟩ rfl (fun hM H locs hRm hW => ?_)
  have hW := hW.sw
  obtain ⟨e, hr⟩ := s_effective hN h (xs (nI i + 1).toNatClampNeg)
  refine lv_icmp_eq (tgt := 595) hx hb dL_law_419 (by decide) (fun _ => ?_) (fun z => absurd e z)
  exact tail Lb Lm _ _ _ _ _ _ _ hB hM H locs _ _ ls hr hRb hRm hW hl (by show cells + 0 + 0 + q ≤ 600000; omega) (by show slots + 0 + 0 + 5 * q ≤ 7302250; omega) (by show cnt + q ≤ 1000; omega)
set_option maxHeartbeats 4000000 in
theorem lw_case_waitsFor (hC : db_Cx p s m #[Value.ref b] meth c Γ RL cL_law 4 (some .boolean)) (hX : va_X b L xs s s.heap) (hbl : b < s.heap.size) (hL31 : L < 2 ^ 31) (hN : bb_N N) (hi : i + 5 ≤ L) (tail : lw_G p l e s m below meth c Γ N b q i 595) : lw_G p l e s m below meth c Γ N b (q + 1) i 424 := by
  intro Lb Lm X Y sz cnt th tm la hB hM H locs cells slots ls h hRb hRm hW hl hc hs hq
  obtain ⟨hx, hb, hml, hr0, hlocks, hown, hts, hK⟩ := id hC
  have hbA : ¬ s.heap.size ≤ b := by omega
  refine lv_aload_n hx hb dL_law_424 rfl (lv_at hl 1 rfl) ?_
  refine lv_aload_n hx hb dL_law_425 rfl (lv_at hl 0 rfl) ?_
  refine lv_iload_n hx hb dL_law_426 rfl (lv_at hl 3 rfl) ?_
  refine lv_iconst (v := 1) hx hb dL_law_427 (by decide) ?_
  refine lv_iadd hx hb dL_law_428 ?_
  refine va_sld hx hb hX hbl hbA hW.1.2.2.1 (lw_ix (k := 1) rfl (by omega) hL31) dL_law_429 ?_
  refine lw_call (As := [.int (xs (nI i + 1).toNatClampNeg)]) (rest := []) hC hW hRb (bb_k 0 rfl) rfl db_c6 (c_X6_waitsFor l Γ N Lb cnt X hN (xs (nI i + 1).toNatClampNeg)) (cw_X6_waitsFor (Nat.le_of_ble_eq_true rfl) (Nat.le_of_ble_eq_true rfl)) wd_381 wd_382 wd_383 rfl hl.1 rfl (Nat.le_of_ble_eq_true rfl) dL_law_430 ⟨by show cells + 0 ≤ 600000; omega, by show slots + 0 ≤ 7302250; omega⟩ rfl (fun hB H locs hRb hW => ?_)
  refine lv_aload_n hx hb dL_law_433 rfl (lv_at hl 2 rfl) ?_
  refine lv_aload_n hx hb dL_law_434 rfl (lv_at hl 0 rfl) ?_
  refine lv_iload_n hx hb dL_law_435 rfl (lv_at hl 3 rfl) ?_
  refine lv_iconst (v := 1) hx hb dL_law_436 (by decide) ?_
  refine lv_iadd hx hb dL_law_437 ?_
  refine va_sld hx hb hX hbl hbA hW.1.2.2.1 (lw_ix (k := 1) rfl (by omega) hL31) dL_law_438 ?_
  have hW := hW.sw
  refine lw_call (As := [.int (xs (nI i + 1).toNatClampNeg)]) hC hW hRm (mm_k 0 rfl) rfl db_c7 (c_X7_waitsFor l Γ N Lm Y hN (xs (nI i + 1).toNatClampNeg)) (cw_X7_waitsFor (Nat.le_of_ble_eq_true rfl) (Nat.le_of_ble_eq_true rfl)) wd_655 wd_656 wd_657 rfl hl.1 rfl (Nat.le_of_ble_eq_true rfl) dL_law_439 ⟨by show cells + 0 + 0 ≤ 600000; omega, by show slots + 0 + 0 ≤ 7302250; omega⟩ rfl (fun hM H locs hRm hW => ?_)
  have hW := hW.sw
  have e := s_waitsFor hN h (xs (nI i + 1).toNatClampNeg)
  refine lv_icmp_eq (tgt := 595) hx hb dL_law_442 (by decide) (fun _ => ?_) (fun z => absurd e z)
  exact tail Lb Lm _ _ _ _ _ _ _ hB hM H locs _ _ ls h hRb hRm hW hl (by show cells + 0 + 0 + q ≤ 600000; omega) (by show slots + 0 + 0 + 5 * q ≤ 7302250; omega) (by show cnt + q ≤ 1000; omega)
set_option maxHeartbeats 4000000 in
theorem lw_case_owner (hC : db_Cx p s m #[Value.ref b] meth c Γ RL cL_law 4 (some .boolean)) (hX : va_X b L xs s s.heap) (hbl : b < s.heap.size) (hL31 : L < 2 ^ 31) (hN : bb_N N) (hi : i + 5 ≤ L) (tail : lw_G p l e s m below meth c Γ N b q i 595) : lw_G p l e s m below meth c Γ N b (q + 1) i 447 := by
  intro Lb Lm X Y sz cnt th tm la hB hM H locs cells slots ls h hRb hRm hW hl hc hs hq
  obtain ⟨hx, hb, hml, hr0, hlocks, hown, hts, hK⟩ := id hC
  have hbA : ¬ s.heap.size ≤ b := by omega
  refine lv_aload_n hx hb dL_law_447 rfl (lv_at hl 1 rfl) ?_
  refine lv_aload_n hx hb dL_law_448 rfl (lv_at hl 0 rfl) ?_
  refine lv_iload_n hx hb dL_law_449 rfl (lv_at hl 3 rfl) ?_
  refine lv_iconst (v := 1) hx hb dL_law_450 (by decide) ?_
  refine lv_iadd hx hb dL_law_451 ?_
  refine va_sld hx hb hX hbl hbA hW.1.2.2.1 (lw_ix (k := 1) rfl (by omega) hL31) dL_law_452 ?_
  refine lw_call (As := [.int (xs (nI i + 1).toNatClampNeg)]) (rest := []) hC hW hRb (bb_k 0 rfl) rfl db_c6 (c_X6_owner l Γ N Lb cnt X hN (xs (nI i + 1).toNatClampNeg)) (cw_X6_owner (Nat.le_of_ble_eq_true rfl) (Nat.le_of_ble_eq_true rfl)) wd_385 wd_386 wd_387 rfl hl.1 rfl (Nat.le_of_ble_eq_true rfl) dL_law_453 ⟨by show cells + 0 ≤ 600000; omega, by show slots + 0 ≤ 7302250; omega⟩ rfl (fun hB H locs hRb hW => ?_)
  refine lv_aload_n hx hb dL_law_456 rfl (lv_at hl 2 rfl) ?_
  refine lv_aload_n hx hb dL_law_457 rfl (lv_at hl 0 rfl) ?_
  refine lv_iload_n hx hb dL_law_458 rfl (lv_at hl 3 rfl) ?_
  refine lv_iconst (v := 1) hx hb dL_law_459 (by decide) ?_
  refine lv_iadd hx hb dL_law_460 ?_
  refine va_sld hx hb hX hbl hbA hW.1.2.2.1 (lw_ix (k := 1) rfl (by omega) hL31) dL_law_461 ?_
  have hW := hW.sw
  refine lw_call (As := [.int (xs (nI i + 1).toNatClampNeg)]) hC hW hRm (mm_k 0 rfl) rfl db_c7 (c_X7_owner l Γ N Lm Y hN (xs (nI i + 1).toNatClampNeg)) (cw_X7_owner (Nat.le_of_ble_eq_true rfl) (Nat.le_of_ble_eq_true rfl)) wd_659 wd_660 wd_661 rfl hl.1 rfl (Nat.le_of_ble_eq_true rfl) dL_law_462 ⟨by show cells + 0 + 0 ≤ 600000; omega, by show slots + 0 + 0 ≤ 7302250; omega⟩ rfl (fun hM H locs hRm hW => ?_)
  have hW := hW.sw
  have e := s_owner hN h (xs (nI i + 1).toNatClampNeg)
  refine lv_icmp_eq (tgt := 595) hx hb dL_law_465 (by decide) (fun _ => ?_) (fun z => absurd e z)
  exact tail Lb Lm _ _ _ _ _ _ _ hB hM H locs _ _ ls h hRb hRm hW hl (by show cells + 0 + 0 + q ≤ 600000; omega) (by show slots + 0 + 0 + 5 * q ≤ 7302250; omega) (by show cnt + q ≤ 1000; omega)
set_option maxHeartbeats 4000000 in
theorem lw_case_waiters (hC : db_Cx p s m #[Value.ref b] meth c Γ RL cL_law 4 (some .boolean)) (hX : va_X b L xs s s.heap) (hbl : b < s.heap.size) (hL31 : L < 2 ^ 31) (hN : bb_N N) (hi : i + 5 ≤ L) (tail : lw_G p l e s m below meth c Γ N b q i 595) : lw_G p l e s m below meth c Γ N b (q + 1) i 470 := by
  intro Lb Lm X Y sz cnt th tm la hB hM H locs cells slots ls h hRb hRm hW hl hc hs hq
  obtain ⟨hx, hb, hml, hr0, hlocks, hown, hts, hK⟩ := id hC
  have hbA : ¬ s.heap.size ≤ b := by omega
  refine lv_aload_n hx hb dL_law_470 rfl (lv_at hl 1 rfl) ?_
  refine lv_aload_n hx hb dL_law_471 rfl (lv_at hl 0 rfl) ?_
  refine lv_iload_n hx hb dL_law_472 rfl (lv_at hl 3 rfl) ?_
  refine lv_iconst (v := 1) hx hb dL_law_473 (by decide) ?_
  refine lv_iadd hx hb dL_law_474 ?_
  refine va_sld hx hb hX hbl hbA hW.1.2.2.1 (lw_ix (k := 1) rfl (by omega) hL31) dL_law_475 ?_
  refine lw_call (As := [.int (xs (nI i + 1).toNatClampNeg)]) (rest := []) hC hW hRb (bb_k 0 rfl) rfl db_c6 (c_X6_waiters l Γ N Lb cnt X hN (xs (nI i + 1).toNatClampNeg)) (cw_X6_waiters (Nat.le_of_ble_eq_true rfl) (Nat.le_of_ble_eq_true rfl)) wd_389 wd_390 wd_391 rfl hl.1 rfl (Nat.le_of_ble_eq_true rfl) dL_law_476 ⟨by show cells + 0 ≤ 600000; omega, by show slots + 0 ≤ 7302250; omega⟩ rfl (fun hB H locs hRb hW => ?_)
  refine lv_aload_n hx hb dL_law_479 rfl (lv_at hl 2 rfl) ?_
  refine lv_aload_n hx hb dL_law_480 rfl (lv_at hl 0 rfl) ?_
  refine lv_iload_n hx hb dL_law_481 rfl (lv_at hl 3 rfl) ?_
  refine lv_iconst (v := 1) hx hb dL_law_482 (by decide) ?_
  refine lv_iadd hx hb dL_law_483 ?_
  refine va_sld hx hb hX hbl hbA hW.1.2.2.1 (lw_ix (k := 1) rfl (by omega) hL31) dL_law_484 ?_
  have hW := hW.sw
  refine lw_call (As := [.int (xs (nI i + 1).toNatClampNeg)]) hC hW hRm (mm_k 0 rfl) rfl db_c7 (c_X7_waiters l Γ N Lm Y hN (xs (nI i + 1).toNatClampNeg)) (cw_X7_waiters (Nat.le_of_ble_eq_true rfl) (Nat.le_of_ble_eq_true rfl)) wd_663 wd_664 wd_665 rfl hl.1 rfl (Nat.le_of_ble_eq_true rfl) dL_law_485 ⟨by show cells + 0 + 0 ≤ 600000; omega, by show slots + 0 + 0 ≤ 7302250; omega⟩ rfl (fun hM H locs hRm hW => ?_)
  have hW := hW.sw
  have e := s_waiters hN h (xs (nI i + 1).toNatClampNeg)
  refine lv_icmp_eq (tgt := 595) hx hb dL_law_488 (by decide) (fun _ => ?_) (fun z => absurd e z)
  exact tail Lb Lm _ _ _ _ _ _ _ hB hM H locs _ _ ls h hRb hRm hW hl (by show cells + 0 + 0 + q ≤ 600000; omega) (by show slots + 0 + 0 + 5 * q ≤ 7302250; omega) (by show cnt + q ≤ 1000; omega)
set_option maxHeartbeats 4000000 in
theorem lw_case_missCount (hC : db_Cx p s m #[Value.ref b] meth c Γ RL cL_law 4 (some .boolean)) (hX : va_X b L xs s s.heap) (hbl : b < s.heap.size) (hL31 : L < 2 ^ 31) (hN : bb_N N) (hi : i + 5 ≤ L) (tail : lw_G p l e s m below meth c Γ N b q i 595) : lw_G p l e s m below meth c Γ N b (q + 1) i 493 := by
  intro Lb Lm X Y sz cnt th tm la hB hM H locs cells slots ls h hRb hRm hW hl hc hs hq
  obtain ⟨hx, hb, hml, hr0, hlocks, hown, hts, hK⟩ := id hC
  have hbA : ¬ s.heap.size ≤ b := by omega
  refine lv_aload_n hx hb dL_law_493 rfl (lv_at hl 1 rfl) ?_
  refine lw_call (As := []) (rest := []) hC hW hRb (bb_k 0 rfl) rfl db_c6 (c_X6_missCount l Γ N Lb cnt X hN) (cw_X6_missCount (Nat.le_of_ble_eq_true rfl) (Nat.le_of_ble_eq_true rfl)) wd_393 wd_394 wd_395 rfl hl.1 rfl (Nat.le_of_ble_eq_true rfl) dL_law_494 ⟨by show cells + 0 ≤ 600000; omega, by show slots + 0 ≤ 7302250; omega⟩ rfl (fun hB H locs hRb hW => ?_)
  refine lv_aload_n hx hb dL_law_497 rfl (lv_at hl 2 rfl) ?_
  have hW := hW.sw
  refine lw_call (As := []) hC hW hRm (mm_k 0 rfl) rfl db_c7 (c_X7_missCount l Γ N Lm Y hN) (cw_X7_missCount (Nat.le_of_ble_eq_true rfl) (Nat.le_of_ble_eq_true rfl)) wd_667 wd_668 wd_669 rfl hl.1 rfl (Nat.le_of_ble_eq_true rfl) dL_law_498 ⟨by show cells + 0 + 0 ≤ 600000; omega, by show slots + 0 + 0 ≤ 7302250; omega⟩ rfl (fun hM H locs hRm hW => ?_)
  have hW := hW.sw
  have e := s_missCount h
  refine lv_icmp_eq (tgt := 595) hx hb dL_law_501 (by decide) (fun _ => ?_) (fun z => absurd e z)
  exact tail Lb Lm _ _ _ _ _ _ _ hB hM H locs _ _ ls h hRb hRm hW hl (by show cells + 0 + 0 + q ≤ 600000; omega) (by show slots + 0 + 0 + 5 * q ≤ 7302250; omega) (by show cnt + q ≤ 1000; omega)
set_option maxHeartbeats 4000000 in
theorem lw_case_miss (hC : db_Cx p s m #[Value.ref b] meth c Γ RL cL_law 4 (some .boolean)) (hX : va_X b L xs s s.heap) (hbl : b < s.heap.size) (hL31 : L < 2 ^ 31) (hN : bb_N N) (hi : i + 5 ≤ L) (tail : lw_G p l e s m below meth c Γ N b q i 595) : lw_G p l e s m below meth c Γ N b (q + 1) i 506 := by
  intro Lb Lm X Y sz cnt th tm la hB hM H locs cells slots ls h hRb hRm hW hl hc hs hq
  obtain ⟨hx, hb, hml, hr0, hlocks, hown, hts, hK⟩ := id hC
  have hbA : ¬ s.heap.size ≤ b := by omega
  refine lv_aload_n hx hb dL_law_506 rfl (lv_at hl 1 rfl) ?_
  refine lv_aload_n hx hb dL_law_507 rfl (lv_at hl 0 rfl) ?_
  refine lv_iload_n hx hb dL_law_508 rfl (lv_at hl 3 rfl) ?_
  refine lv_iconst (v := 1) hx hb dL_law_509 (by decide) ?_
  refine lv_iadd hx hb dL_law_510 ?_
  refine va_sld hx hb hX hbl hbA hW.1.2.2.1 (lw_ix (k := 1) rfl (by omega) hL31) dL_law_511 ?_
  refine lv_aload_n hx hb dL_law_512 rfl (lv_at hl 0 rfl) ?_
  refine lv_iload_n hx hb dL_law_513 rfl (lv_at hl 3 rfl) ?_
  refine lv_iconst (v := 2) hx hb dL_law_514 (by decide) ?_
  refine lv_iadd hx hb dL_law_515 ?_
  refine va_sld hx hb hX hbl hbA hW.1.2.2.1 (lw_ix (k := 2) rfl (by omega) hL31) dL_law_516 ?_
  refine lw_call (As := [.int (xs (nI i + 1).toNatClampNeg), .int (xs (nI i + 2).toNatClampNeg)]) (rest := []) hC hW hRb (bb_k 0 rfl) rfl db_c6 (c_X6_miss l Γ N Lb cnt X hN (xs (nI i + 1).toNatClampNeg) (xs (nI i + 2).toNatClampNeg)) (cw_X6_miss (Nat.le_of_ble_eq_true rfl) (Nat.le_of_ble_eq_true rfl)) wd_397 wd_398 wd_399 rfl hl.1 rfl (Nat.le_of_ble_eq_true rfl) dL_law_517 ⟨by show cells + 0 ≤ 600000; omega, by show slots + 0 ≤ 7302250; omega⟩ rfl (fun hB H locs hRb hW => ?_)
  refine lv_aload_n hx hb dL_law_520 rfl (lv_at hl 2 rfl) ?_
  refine lv_aload_n hx hb dL_law_521 rfl (lv_at hl 0 rfl) ?_
  refine lv_iload_n hx hb dL_law_522 rfl (lv_at hl 3 rfl) ?_
  refine lv_iconst (v := 1) hx hb dL_law_523 (by decide) ?_
  refine lv_iadd hx hb dL_law_524 ?_
  refine va_sld hx hb hX hbl hbA hW.1.2.2.1 (lw_ix (k := 1) rfl (by omega) hL31) dL_law_525 ?_
  refine lv_aload_n hx hb dL_law_526 rfl (lv_at hl 0 rfl) ?_
  refine lv_iload_n hx hb dL_law_527 rfl (lv_at hl 3 rfl) ?_
  refine lv_iconst (v := 2) hx hb dL_law_528 (by decide) ?_
  refine lv_iadd hx hb dL_law_529 ?_
  refine va_sld hx hb hX hbl hbA hW.1.2.2.1 (lw_ix (k := 2) rfl (by omega) hL31) dL_law_530 ?_
  have hW := hW.sw
  refine lw_call (As := [.int (xs (nI i + 1).toNatClampNeg), .int (xs (nI i + 2).toNatClampNeg)]) hC hW hRm (mm_k 0 rfl) rfl db_c7 (c_X7_miss l Γ N Lm Y hN (xs (nI i + 1).toNatClampNeg) (xs (nI i + 2).toNatClampNeg)) (cw_X7_miss (Nat.le_of_ble_eq_true rfl) (Nat.le_of_ble_eq_true rfl)) wd_671 wd_672 wd_673 rfl hl.1 rfl (Nat.le_of_ble_eq_true rfl) dL_law_531 ⟨by show cells + 0 + 0 ≤ 600000; omega, by show slots + 0 + 0 ≤ 7302250; omega⟩ rfl (fun hM H locs hRm hW => ?_)
  have hW := hW.sw
  have e := s_miss h (xs (nI i + 1).toNatClampNeg) (xs (nI i + 2).toNatClampNeg)
  refine lv_icmp_eq (tgt := 595) hx hb dL_law_534 (by decide) (fun _ => ?_) (fun z => absurd e z)
  exact tail Lb Lm _ _ _ _ _ _ _ hB hM H locs _ _ ls h hRb hRm hW hl (by show cells + 0 + 0 + q ≤ 600000; omega) (by show slots + 0 + 0 + 5 * q ≤ 7302250; omega) (by show cnt + q ≤ 1000; omega)
set_option maxHeartbeats 4000000 in
theorem lw_case_task (hC : db_Cx p s m #[Value.ref b] meth c Γ RL cL_law 4 (some .boolean)) (hX : va_X b L xs s s.heap) (hbl : b < s.heap.size) (hL31 : L < 2 ^ 31) (hN : bb_N N) (hi : i + 5 ≤ L) (tail : lw_G p l e s m below meth c Γ N b q i 595) : lw_G p l e s m below meth c Γ N b (q + 1) i 539 := by
  intro Lb Lm X Y sz cnt th tm la hB hM H locs cells slots ls h hRb hRm hW hl hc hs hq
  obtain ⟨hx, hb, hml, hr0, hlocks, hown, hts, hK⟩ := id hC
  have hbA : ¬ s.heap.size ≤ b := by omega
  refine lv_aload_n hx hb dL_law_539 rfl (lv_at hl 1 rfl) ?_
  refine lv_aload_n hx hb dL_law_540 rfl (lv_at hl 0 rfl) ?_
  refine lv_iload_n hx hb dL_law_541 rfl (lv_at hl 3 rfl) ?_
  refine lv_iconst (v := 1) hx hb dL_law_542 (by decide) ?_
  refine lv_iadd hx hb dL_law_543 ?_
  refine va_sld hx hb hX hbl hbA hW.1.2.2.1 (lw_ix (k := 1) rfl (by omega) hL31) dL_law_544 ?_
  refine lv_aload_n hx hb dL_law_545 rfl (lv_at hl 0 rfl) ?_
  refine lv_iload_n hx hb dL_law_546 rfl (lv_at hl 3 rfl) ?_
  refine lv_iconst (v := 2) hx hb dL_law_547 (by decide) ?_
  refine lv_iadd hx hb dL_law_548 ?_
  refine va_sld hx hb hX hbl hbA hW.1.2.2.1 (lw_ix (k := 2) rfl (by omega) hL31) dL_law_549 ?_
  refine lw_call (As := [.int (xs (nI i + 1).toNatClampNeg), .int (xs (nI i + 2).toNatClampNeg)]) (rest := []) hC hW hRb (bb_k 0 rfl) rfl db_c6 (c_X6_task l Γ N Lb cnt X hN (xs (nI i + 1).toNatClampNeg) (xs (nI i + 2).toNatClampNeg) sz h.bI (by omega)) (cw_X6_task (Nat.le_of_ble_eq_true rfl) (Nat.le_of_ble_eq_true rfl)) wd_405 wd_406 wd_407 rfl hl.1 rfl (Nat.le_of_ble_eq_true rfl) dL_law_550 ⟨by show cells + 0 ≤ 600000; omega, by show slots + 0 ≤ 7302250; omega⟩ rfl (fun hB H locs hRb hW => ?_)
  refine lv_aload_n hx hb dL_law_553 rfl (lv_at hl 2 rfl) ?_
  refine lv_aload_n hx hb dL_law_554 rfl (lv_at hl 0 rfl) ?_
  refine lv_iload_n hx hb dL_law_555 rfl (lv_at hl 3 rfl) ?_
  refine lv_iconst (v := 1) hx hb dL_law_556 (by decide) ?_
  refine lv_iadd hx hb dL_law_557 ?_
  refine va_sld hx hb hX hbl hbA hW.1.2.2.1 (lw_ix (k := 1) rfl (by omega) hL31) dL_law_558 ?_
  refine lv_aload_n hx hb dL_law_559 rfl (lv_at hl 0 rfl) ?_
  refine lv_iload_n hx hb dL_law_560 rfl (lv_at hl 3 rfl) ?_
  refine lv_iconst (v := 2) hx hb dL_law_561 (by decide) ?_
  refine lv_iadd hx hb dL_law_562 ?_
  refine va_sld hx hb hX hbl hbA hW.1.2.2.1 (lw_ix (k := 2) rfl (by omega) hL31) dL_law_563 ?_
  have hW := hW.sw
  refine lw_call (As := [.int (xs (nI i + 1).toNatClampNeg), .int (xs (nI i + 2).toNatClampNeg)]) hC hW hRm (mm_k 0 rfl) rfl db_c7 (c_X7_task l Γ N Lm Y hN (xs (nI i + 1).toNatClampNeg) (xs (nI i + 2).toNatClampNeg) sz h.mI) (cw_X7_task (Nat.le_of_ble_eq_true rfl) (Nat.le_of_ble_eq_true rfl)) wd_675 wd_676 wd_677 rfl hl.1 rfl (Nat.le_of_ble_eq_true rfl) dL_law_564 ⟨by show cells + 0 + 0 ≤ 600000; omega, by show slots + 0 + 0 ≤ 7302250; omega⟩ rfl (fun hM H locs hRm hW => ?_)
  have hW := hW.sw
  have e := s_task hN h (xs (nI i + 1).toNatClampNeg) (xs (nI i + 2).toNatClampNeg)
  refine lv_icmp_eq (tgt := 595) hx hb dL_law_567 (by decide) (fun _ => ?_) (fun z => absurd e z)
  exact tail Lb Lm _ _ _ _ _ _ _ hB hM H locs _ _ ls h hRb hRm hW hl (by show cells + 0 + 0 + q ≤ 600000; omega) (by show slots + 0 + 0 + 5 * q ≤ 7302250; omega) (by show cnt + q ≤ 1000; omega)
set_option maxHeartbeats 4000000 in
theorem lw_case_count (hC : db_Cx p s m #[Value.ref b] meth c Γ RL cL_law 4 (some .boolean)) (hX : va_X b L xs s s.heap) (hbl : b < s.heap.size) (hL31 : L < 2 ^ 31) (hN : bb_N N) (hi : i + 5 ≤ L) (tail : lw_G p l e s m below meth c Γ N b q i 595) : lw_G p l e s m below meth c Γ N b (q + 1) i 572 := by
  intro Lb Lm X Y sz cnt th tm la hB hM H locs cells slots ls h hRb hRm hW hl hc hs hq
  obtain ⟨hx, hb, hml, hr0, hlocks, hown, hts, hK⟩ := id hC
  have hbA : ¬ s.heap.size ≤ b := by omega
  refine lv_aload_n hx hb dL_law_572 rfl (lv_at hl 1 rfl) ?_
  refine lv_aload_n hx hb dL_law_573 rfl (lv_at hl 0 rfl) ?_
  refine lv_iload_n hx hb dL_law_574 rfl (lv_at hl 3 rfl) ?_
  refine lv_iconst (v := 1) hx hb dL_law_575 (by decide) ?_
  refine lv_iadd hx hb dL_law_576 ?_
  refine va_sld hx hb hX hbl hbA hW.1.2.2.1 (lw_ix (k := 1) rfl (by omega) hL31) dL_law_577 ?_
  refine lw_call (As := [.int (xs (nI i + 1).toNatClampNeg)]) (rest := []) hC hW hRb (bb_k 0 rfl) rfl db_c6 (c_X6_count l Γ N Lb cnt X hN (xs (nI i + 1).toNatClampNeg)) (cw_X6_count (Nat.le_of_ble_eq_true rfl) (Nat.le_of_ble_eq_true rfl)) wd_413 wd_414 wd_415 rfl hl.1 rfl (Nat.le_of_ble_eq_true rfl) dL_law_578 ⟨by show cells + 0 ≤ 600000; omega, by show slots + 0 ≤ 7302250; omega⟩ rfl (fun hB H locs hRb hW => ?_)
  refine lv_aload_n hx hb dL_law_581 rfl (lv_at hl 2 rfl) ?_
  refine lv_aload_n hx hb dL_law_582 rfl (lv_at hl 0 rfl) ?_
  refine lv_iload_n hx hb dL_law_583 rfl (lv_at hl 3 rfl) ?_
  refine lv_iconst (v := 1) hx hb dL_law_584 (by decide) ?_
  refine lv_iadd hx hb dL_law_585 ?_
  refine va_sld hx hb hX hbl hbA hW.1.2.2.1 (lw_ix (k := 1) rfl (by omega) hL31) dL_law_586 ?_
  have hW := hW.sw
  refine lw_call (As := [.int (xs (nI i + 1).toNatClampNeg)]) hC hW hRm (mm_k 0 rfl) rfl db_c7 (c_X7_count l Γ N Lm Y hN (xs (nI i + 1).toNatClampNeg)) (cw_X7_count (Nat.le_of_ble_eq_true rfl) (Nat.le_of_ble_eq_true rfl)) wd_683 wd_684 wd_685 rfl hl.1 rfl (Nat.le_of_ble_eq_true rfl) dL_law_587 ⟨by show cells + 0 + 0 ≤ 600000; omega, by show slots + 0 + 0 ≤ 7302250; omega⟩ rfl (fun hM H locs hRm hW => ?_)
  have hW := hW.sw
  have e := s_count hN h (xs (nI i + 1).toNatClampNeg)
  refine lv_icmp_eq (tgt := 595) hx hb dL_law_590 (by decide) (fun _ => ?_) (fun z => absurd e z)
  exact tail Lb Lm _ _ _ _ _ _ _ hB hM H locs _ _ ls h hRb hRm hW hl (by show cells + 0 + 0 + q ≤ 600000; omega) (by show slots + 0 + 0 + 5 * q ≤ 7302250; omega) (by show cnt + q ≤ 1000; omega)
end LAWD
