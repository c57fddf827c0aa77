/-! the law's loop -/
def LwC (p : Program) (l : Launch) (s : State) (m : MethodId) (cd : Code) (b L : Nat) (xs : Nat → Int32) (G : va_G) (ad adM : Nat → Nat) (cy : Nat → ClassId) (ao : Nat) (A : Nat → Prop) : Prop := (p.tables.exec = Jvm.exec ∧ cd.code = cL_law ∧ cd.maxLocals = 7 ∧ s.vm.findClass RL = some m.cls ∧ ∀ w ∈ wsL_law, w.before #[Value.ref b] s = true) ∧ (va_X b L xs s s.heap ∧ b < s.heap.size ∧ ¬ A b ∧ L ≤ 2048) ∧ LwS ad adM ao A ∧ (∀ q, s.heap.size ≤ q → A q) ∧ va_K G vwCl (cT cy) s ∧ xE A s s.heap ∧ lN3 s ∧ l.stackTraces = false
set_option maxHeartbeats 4000000 in
set_option maxRecDepth 100000 in
theorem law_setNeed {p : Program} {l : Launch} {e : Env} {s : State} {m : MethodId} {below : List Frame} {meth : Method} {cd : Code} {b L : Nat} {xs : Nat → Int32} {Q : State → Prop} {G : va_G} {ad adM : Nat → Nat} {cy : Nat → ClassId} {ao : Nat} {A : Nat → Prop} (C : LwC p l s m cd b L xs G ad adM cy ao A) {σ M : Sg} {fo : Nat → Int64} {H : Heap} {locs : List Loc} {cells slots : Nat} {ls : Array Slot} {i : Int} (hJ : JJ σ M) (hW : LW G ad cy adM ao σ M fo H) (hS : va_S A s.heap H locs) (hl : lv_has ls 7 [(0, .ref b), (1, .ref (ad 0)), (2, .ref (adM 0)), (3, .ref ao), (4, .int (iI i))]) (hi0 : 0 ≤ i) (hi1 : i + 4 ≤ (L : Int)) (hc : cells + 9 ≤ room_1.cells) (hs : slots + 54 ≤ room_1.slots) (kk : ∀ (σ M : Sg) (fo : Nat → Int64) (H : Heap) (locs : List Loc) (ls : Array Slot), JJ σ M → LW G ad cy adM ao σ M fo H → va_S A s.heap H locs → lv_has ls 7 [(0, .ref b), (1, .ref (ad 0)), (2, .ref (adM 0)), (3, .ref ao), (4, .int (iI i))] → W p l e room_1 s m #[Value.ref b] below meth cd H locs (cells + 9) (slots + 54) Q (F0 m 1523 ls [])) : W p l e room_1 s m #[Value.ref b] below meth cd H locs cells slots Q (F0 m 148 ls []) := by
  obtain ⟨⟨hx, hb, hml, hown, hts⟩, ⟨hX9, hbl, hbA, hL9⟩, hL, hA, hK, hX, hN3, hfl⟩ := C
  obtain ⟨y0, hy0, e0⟩ := iI_of (xs (i + 1).toNat)
  obtain ⟨y1, hy1, e1⟩ := iI_of (xs (i + 2).toNat)
  obtain ⟨y2, hy2, e2⟩ := iI_of (xs (i + 3).toNat)
  refine lv_aload_n hx hb dL_law_148 rfl (lv_at hl 1 rfl) ?_
  refine lv_aload_n hx hb dL_law_149 rfl (lv_at hl 0 rfl) ?_
  refine lv_iload hx hb dL_law_150 (lv_at hl 4 rfl) ?_
  refine k_iconst hx hb dL_law_152 ?_
  refine k_iadd hx hb dL_law_153 ?_
  refine k_sld (x := i + 1) hx hb hX9 hbl hbA hS (by omega) (by omega) hL9 e0 dL_law_154 ?_
  refine lv_aload_n hx hb dL_law_155 rfl (lv_at hl 0 rfl) ?_
  refine lv_iload hx hb dL_law_156 (lv_at hl 4 rfl) ?_
  refine k_iconst hx hb dL_law_158 ?_
  refine k_iadd hx hb dL_law_159 ?_
  refine k_sld (x := i + 2) hx hb hX9 hbl hbA hS (by omega) (by omega) hL9 e1 dL_law_160 ?_
  refine lv_aload_n hx hb dL_law_161 rfl (lv_at hl 0 rfl) ?_
  refine lv_iload hx hb dL_law_162 (lv_at hl 4 rfl) ?_
  refine k_iconst hx hb dL_law_164 ?_
  refine k_iadd hx hb dL_law_165 ?_
  refine k_sld (x := i + 3) hx hb hX9 hbl hbA hS (by omega) (by omega) hL9 e2 dL_law_166 ?_
  refine lv_aload_n hx hb dL_law_167 rfl (lv_at hl 3 rfl) ?_
  refine k_lh (As := [.ref (ad 0), .int (iI y0), .int (iI y1), .int (iI y2), .ref ao]) (rest := []) ⟨hx, hb, hml, hown, hts⟩ (l_setNeed l hfl G ad cy hL.1.1 ao hL.2.1 fo σ (jj_cBd hJ) y0 y1 y2 (by first | assumption | decide) (by first | assumption | decide) (by first | assumption | decide)) (vx_cwSW 5 hts gL_law_L_setNeed rfl rfl rfl (by decide +kernel) ⟨Nat.le_of_ble_eq_true rfl, Nat.le_of_ble_eq_true rfl⟩) hA hL hK hX hN3 hW hS rfl hl.1 rfl (Nat.le_of_ble_eq_true rfl) dL_law_168 ⟨by omega, by omega⟩ (fun H locs fo hfo hW hS => ?_)
  refine lv_istore (lv' := [(5, .int (iI (hRes 3 (kSetNeed y0 y1 y2)))), (0, .ref b), (1, .ref (ad 0)), (2, .ref (adM 0)), (3, .ref ao), (4, .int (iI i))]) hx hb dL_law_171 hl (by decide) rfl (fun ls hl => ?_)
  refine lv_aload_n hx hb dL_law_173 rfl (lv_at hl 3 rfl) ?_
  refine lv_aload_n hx hb dL_law_174 rfl (lv_at hl 1 rfl) ?_
  refine lv_iload hx hb dL_law_175 (lv_at hl 5 rfl) ?_
  refine k_iconst hx hb dL_law_177 ?_
  refine k_iadd hx hb dL_law_178 ?_
  refine k_sld (x := i + 1) hx hb hX9 hbl hbA hS (by omega) (by omega) hL9 e0 dL_law_179 ?_
  refine lv_aload_n hx hb dL_law_180 rfl (lv_at hl 1 rfl) ?_
  refine lv_iload hx hb dL_law_181 (lv_at hl 5 rfl) ?_
  refine k_iconst hx hb dL_law_183 ?_
  refine k_iadd hx hb dL_law_184 ?_
  refine k_sld (x := i + 2) hx hb hX9 hbl hbA hS (by omega) (by omega) hL9 e1 dL_law_185 ?_
  refine lv_aload_n hx hb dL_law_186 rfl (lv_at hl 1 rfl) ?_
  refine lv_iload hx hb dL_law_187 (lv_at hl 5 rfl) ?_
  refine k_iconst hx hb dL_law_189 ?_
  refine k_iadd hx hb dL_law_190 ?_
  refine k_sld (x := i + 3) hx hb hX9 hbl hbA hS (by omega) (by omega) hL9 e2 dL_law_191 ?_
  have hT := t_setNeed hJ y0 y1 y2 (by first | assumption | decide) (by first | assumption | decide) (by first | assumption | decide)
  refine k_lm (As := [.int (iI y0), .int (iI y1), .int (iI y2)]) (rest := []) ⟨hx, hb, hml, hown, hts⟩ (m_setNeed l G adM cy hL.1.2 M y0 y1 y2 (by first | assumption | decide) (by first | assumption | decide) (by first | assumption | decide) (jj_mBd hJ)) (cwV 3 hts gL_law_X3_setNeed rfl rfl rfl (by decide +kernel) ⟨Nat.le_of_ble_eq_true rfl, Nat.le_of_ble_eq_true rfl⟩) hA hL hK hW hS rfl hl.1 rfl (Nat.le_of_ble_eq_true rfl) dL_law_192 ⟨by omega, by omega⟩ (fun H locs hW hS => ?_)
  refine lv_istore (lv' := [(6, .int (iI (rOf (qSetNeed y0 y1 y2) (M 1 (4 * y0 + y1).toNat)))), (5, .int (iI (hRes 3 (kSetNeed y0 y1 y2)))), (0, .ref b), (1, .ref (ad 0)), (2, .ref (adM 0)), (3, .ref ao), (4, .int (iI i))]) hx hb dL_law_195 hl (by decide) rfl (fun ls hl => ?_)
  refine lv_aload_n hx hb dL_law_197 rfl (lv_at hl 4 rfl) ?_
  refine k_lm (As := []) (rest := []) ⟨hx, hb, hml, hown, hts⟩ (m_thrown l G adM cy hL.1.2 (tOf (qSetNeed y0 y1 y2) M (up (up M 0 0 0) 1 (4 * y0 + y1).toNat y2))) (cwV 0 hts gL_law_X3_thrown rfl rfl rfl (by decide +kernel) ⟨Nat.le_of_ble_eq_true rfl, Nat.le_of_ble_eq_true rfl⟩) hA hL hK hW hS rfl hl.1 rfl (Nat.le_of_ble_eq_true rfl) dL_law_198 ⟨by omega, by omega⟩ (fun H locs hW hS => ?_)
  refine lv_iload hx hb dL_law_201 (lv_at hl 1 rfl) ?_
  refine lv_icmp_eq (tgt := 208) hx hb dL_law_203 (by decide) (fun _ => ?_) (fun c9 => absurd (by rw [hT.1.1]) c9)
  have J9 : W p l e room_1 s m #[Value.ref b] below meth cd H locs (cells + 2) (slots + 6 * 2) Q (F0 m 225 ls []) := by
    refine lv_goto (tgt := 1523) hx hb dL_law_225 (by decide) ?_
    refine W.widen (k := cells + 9) (n := slots + 54) (by omega) (by omega) ?_
    exact kk _ _ _ _ _ _ hT.2.2 hW hS (lv_sub hl [2, 3, 4, 5, 6] rfl)
  refine lv_iload hx hb dL_law_208 (lv_at hl 1 rfl) ?_
  refine lv_if_ne (tgt := 225) hx hb dL_law_210 (by decide) (fun _ => J9) (fun c9 => ?_)
  have h0 : kSetNeed y0 y1 y2 = 0 := hRes_0 hT.1.2 (by decide) c9
  refine lv_aload_n hx hb dL_law_213 rfl (lv_at hl 5 rfl) ?_
  refine k_iconst hx hb dL_law_214 ?_
  refine k_old hx hb hK hW (hfo h0) dL_law_215 ?_
  refine lv_iload hx hb dL_law_216 (lv_at hl 0 rfl) ?_
  refine lv_i2l hx hb dL_law_218 rfl ?_
  refine W.lcmp hx hb dL_law_219 ?_
  refine lv_if_eq (tgt := 225) hx hb dL_law_220 (by decide) (fun _ => J9) (fun c9 => absurd ((lg_cmp_eq _ _).mpr (by rw [hT.2.1 h0])) c9)
set_option maxHeartbeats 4000000 in
set_option maxRecDepth 100000 in
theorem law_setCrop {p : Program} {l : Launch} {e : Env} {s : State} {m : MethodId} {below : List Frame} {meth : Method} {cd : Code} {b L : Nat} {xs : Nat → Int32} {Q : State → Prop} {G : va_G} {ad adM : Nat → Nat} {cy : Nat → ClassId} {ao : Nat} {A : Nat → Prop} (C : LwC p l s m cd b L xs G ad adM cy ao A) {σ M : Sg} {fo : Nat → Int64} {H : Heap} {locs : List Loc} {cells slots : Nat} {ls : Array Slot} {i : Int} (hJ : JJ σ M) (hW : LW G ad cy adM ao σ M fo H) (hS : va_S A s.heap H locs) (hl : lv_has ls 7 [(0, .ref b), (1, .ref (ad 0)), (2, .ref (adM 0)), (3, .ref ao), (4, .int (iI i))]) (hi0 : 0 ≤ i) (hi1 : i + 4 ≤ (L : Int)) (hc : cells + 9 ≤ room_1.cells) (hs : slots + 54 ≤ room_1.slots) (kk : ∀ (σ M : Sg) (fo : Nat → Int64) (H : Heap) (locs : List Loc) (ls : Array Slot), JJ σ M → LW G ad cy adM ao σ M fo H → va_S A s.heap H locs → lv_has ls 7 [(0, .ref b), (1, .ref (ad 0)), (2, .ref (adM 0)), (3, .ref ao), (4, .int (iI i))] → W p l e room_1 s m #[Value.ref b] below meth cd H locs (cells + 9) (slots + 54) Q (F0 m 1523 ls [])) : W p l e room_1 s m #[Value.ref b] below meth cd H locs cells slots Q (F0 m 228 ls []) := by
  obtain ⟨⟨hx, hb, hml, hown, hts⟩, ⟨hX9, hbl, hbA, hL9⟩, hL, hA, hK, hX, hN3, hfl⟩ := C
  obtain ⟨y0, hy0, e0⟩ := iI_of (xs (i + 1).toNat)
  obtain ⟨y1, hy1, e1⟩ := iI_of (xs (i + 2).toNat)
  obtain ⟨y2, hy2, e2⟩ := iI_of (xs (i + 3).toNat)
  refine lv_aload_n hx hb dL_law_228 rfl (lv_at hl 1 rfl) ?_
  refine lv_aload_n hx hb dL_law_229 rfl (lv_at hl 0 rfl) ?_
  refine lv_iload hx hb dL_law_230 (lv_at hl 4 rfl) ?_
  refine k_iconst hx hb dL_law_232 ?_
  refine k_iadd hx hb dL_law_233 ?_
  refine k_sld (x := i + 1) hx hb hX9 hbl hbA hS (by omega) (by omega) hL9 e0 dL_law_234 ?_
  refine lv_aload_n hx hb dL_law_235 rfl (lv_at hl 0 rfl) ?_
  refine lv_iload hx hb dL_law_236 (lv_at hl 4 rfl) ?_
  refine k_iconst hx hb dL_law_238 ?_
  refine k_iadd hx hb dL_law_239 ?_
  refine k_sld (x := i + 2) hx hb hX9 hbl hbA hS (by omega) (by omega) hL9 e1 dL_law_240 ?_
  refine lv_aload_n hx hb dL_law_241 rfl (lv_at hl 0 rfl) ?_
  refine lv_iload hx hb dL_law_242 (lv_at hl 4 rfl) ?_
  refine k_iconst hx hb dL_law_244 ?_
  refine k_iadd hx hb dL_law_245 ?_
  refine k_sld (x := i + 3) hx hb hX9 hbl hbA hS (by omega) (by omega) hL9 e2 dL_law_246 ?_
  refine lv_aload_n hx hb dL_law_247 rfl (lv_at hl 3 rfl) ?_
  refine k_lh (As := [.ref (ad 0), .int (iI y0), .int (iI y1), .int (iI y2), .ref ao]) (rest := []) ⟨hx, hb, hml, hown, hts⟩ (l_setCrop l hfl G ad cy hL.1.1 ao hL.2.1 fo σ (jj_cBd hJ) y0 y1 y2 (by first | assumption | decide) (by first | assumption | decide) (by first | assumption | decide)) (vx_cwSW 5 hts gL_law_L_setCrop rfl rfl rfl (by decide +kernel) ⟨Nat.le_of_ble_eq_true rfl, Nat.le_of_ble_eq_true rfl⟩) hA hL hK hX hN3 hW hS rfl hl.1 rfl (Nat.le_of_ble_eq_true rfl) dL_law_248 ⟨by omega, by omega⟩ (fun H locs fo hfo hW hS => ?_)
  refine lv_istore (lv' := [(5, .int (iI (hRes 3 (kSetCrop y0 y1 y2)))), (0, .ref b), (1, .ref (ad 0)), (2, .ref (adM 0)), (3, .ref ao), (4, .int (iI i))]) hx hb dL_law_251 hl (by decide) rfl (fun ls hl => ?_)
  refine lv_aload_n hx hb dL_law_253 rfl (lv_at hl 3 rfl) ?_
  refine lv_aload_n hx hb dL_law_254 rfl (lv_at hl 1 rfl) ?_
  refine lv_iload hx hb dL_law_255 (lv_at hl 5 rfl) ?_
  refine k_iconst hx hb dL_law_257 ?_
  refine k_iadd hx hb dL_law_258 ?_
  refine k_sld (x := i + 1) hx hb hX9 hbl hbA hS (by omega) (by omega) hL9 e0 dL_law_259 ?_
  refine lv_aload_n hx hb dL_law_260 rfl (lv_at hl 1 rfl) ?_
  refine lv_iload hx hb dL_law_261 (lv_at hl 5 rfl) ?_
  refine k_iconst hx hb dL_law_263 ?_
  refine k_iadd hx hb dL_law_264 ?_
  refine k_sld (x := i + 2) hx hb hX9 hbl hbA hS (by omega) (by omega) hL9 e1 dL_law_265 ?_
  refine lv_aload_n hx hb dL_law_266 rfl (lv_at hl 1 rfl) ?_
  refine lv_iload hx hb dL_law_267 (lv_at hl 5 rfl) ?_
  refine k_iconst hx hb dL_law_269 ?_
  refine k_iadd hx hb dL_law_270 ?_
  refine k_sld (x := i + 3) hx hb hX9 hbl hbA hS (by omega) (by omega) hL9 e2 dL_law_271 ?_
  have hT := t_setCrop hJ y0 y1 y2 (by first | assumption | decide) (by first | assumption | decide) (by first | assumption | decide)
  refine k_lm (As := [.int (iI y0), .int (iI y1), .int (iI y2)]) (rest := []) ⟨hx, hb, hml, hown, hts⟩ (m_setCrop l G adM cy hL.1.2 M y0 y1 y2 (by first | assumption | decide) (by first | assumption | decide) (by first | assumption | decide) (jj_mBd hJ)) (cwV 3 hts gL_law_X3_setCrop rfl rfl rfl (by decide +kernel) ⟨Nat.le_of_ble_eq_true rfl, Nat.le_of_ble_eq_true rfl⟩) hA hL hK hW hS rfl hl.1 rfl (Nat.le_of_ble_eq_true rfl) dL_law_272 ⟨by omega, by omega⟩ (fun H locs hW hS => ?_)
  refine lv_istore (lv' := [(6, .int (iI (rOf (qSetCrop y0 y1 y2) (M 2 y0.toNat)))), (5, .int (iI (hRes 3 (kSetCrop y0 y1 y2)))), (0, .ref b), (1, .ref (ad 0)), (2, .ref (adM 0)), (3, .ref ao), (4, .int (iI i))]) hx hb dL_law_275 hl (by decide) rfl (fun ls hl => ?_)
  refine lv_aload_n hx hb dL_law_277 rfl (lv_at hl 4 rfl) ?_
  refine k_lm (As := []) (rest := []) ⟨hx, hb, hml, hown, hts⟩ (m_thrown l G adM cy hL.1.2 (tOf (qSetCrop y0 y1 y2) M (up (up (up M 0 0 0) 2 y0.toNat y1) 3 y0.toNat y2))) (cwV 0 hts gL_law_X3_thrown rfl rfl rfl (by decide +kernel) ⟨Nat.le_of_ble_eq_true rfl, Nat.le_of_ble_eq_true rfl⟩) hA hL hK hW hS rfl hl.1 rfl (Nat.le_of_ble_eq_true rfl) dL_law_278 ⟨by omega, by omega⟩ (fun H locs hW hS => ?_)
  refine lv_iload hx hb dL_law_281 (lv_at hl 1 rfl) ?_
  refine lv_icmp_eq (tgt := 288) hx hb dL_law_283 (by decide) (fun _ => ?_) (fun c9 => absurd (by rw [hT.1.1]) c9)
  have J9 : W p l e room_1 s m #[Value.ref b] below meth cd H locs (cells + 3) (slots + 6 * 3) Q (F0 m 305 ls []) := by
    refine lv_goto (tgt := 1523) hx hb dL_law_305 (by decide) ?_
    refine W.widen (k := cells + 9) (n := slots + 54) (by omega) (by omega) ?_
    exact kk _ _ _ _ _ _ hT.2.2 hW hS (lv_sub hl [2, 3, 4, 5, 6] rfl)
  refine lv_iload hx hb dL_law_288 (lv_at hl 1 rfl) ?_
  refine lv_if_ne (tgt := 305) hx hb dL_law_290 (by decide) (fun _ => J9) (fun c9 => ?_)
  have h0 : kSetCrop y0 y1 y2 = 0 := hRes_0 hT.1.2 (by decide) c9
  refine lv_aload_n hx hb dL_law_293 rfl (lv_at hl 5 rfl) ?_
  refine k_iconst hx hb dL_law_294 ?_
  refine k_old hx hb hK hW (hfo h0) dL_law_295 ?_
  refine lv_iload hx hb dL_law_296 (lv_at hl 0 rfl) ?_
  refine lv_i2l hx hb dL_law_298 rfl ?_
  refine W.lcmp hx hb dL_law_299 ?_
  refine lv_if_eq (tgt := 305) hx hb dL_law_300 (by decide) (fun _ => J9) (fun c9 => absurd ((lg_cmp_eq _ _).mpr (by rw [hT.2.1 h0])) c9)
set_option maxHeartbeats 4000000 in
set_option maxRecDepth 100000 in
theorem law_add {p : Program} {l : Launch} {e : Env} {s : State} {m : MethodId} {below : List Frame} {meth : Method} {cd : Code} {b L : Nat} {xs : Nat → Int32} {Q : State → Prop} {G : va_G} {ad adM : Nat → Nat} {cy : Nat → ClassId} {ao : Nat} {A : Nat → Prop} (C : LwC p l s m cd b L xs G ad adM cy ao A) {σ M : Sg} {fo : Nat → Int64} {H : Heap} {locs : List Loc} {cells slots : Nat} {ls : Array Slot} {i : Int} (hJ : JJ σ M) (hW : LW G ad cy adM ao σ M fo H) (hS : va_S A s.heap H locs) (hl : lv_has ls 7 [(0, .ref b), (1, .ref (ad 0)), (2, .ref (adM 0)), (3, .ref ao), (4, .int (iI i))]) (hi0 : 0 ≤ i) (hi1 : i + 4 ≤ (L : Int)) (hc : cells + 9 ≤ room_1.cells) (hs : slots + 54 ≤ room_1.slots) (kk : ∀ (σ M : Sg) (fo : Nat → Int64) (H : Heap) (locs : List Loc) (ls : Array Slot), JJ σ M → LW G ad cy adM ao σ M fo H → va_S A s.heap H locs → lv_has ls 7 [(0, .ref b), (1, .ref (ad 0)), (2, .ref (adM 0)), (3, .ref ao), (4, .int (iI i))] → W p l e room_1 s m #[Value.ref b] below meth cd H locs (cells + 9) (slots + 54) Q (F0 m 1523 ls [])) : W p l e room_1 s m #[Value.ref b] below meth cd H locs cells slots Q (F0 m 308 ls []) := by
  obtain ⟨⟨hx, hb, hml, hown, hts⟩, ⟨hX9, hbl, hbA, hL9⟩, hL, hA, hK, hX, hN3, hfl⟩ := C
  obtain ⟨y0, hy0, e0⟩ := iI_of (xs (i + 1).toNat)
  refine lv_aload_n hx hb dL_law_308 rfl (lv_at hl 1 rfl) ?_
  refine lv_aload_n hx hb dL_law_309 rfl (lv_at hl 0 rfl) ?_
  refine lv_iload hx hb dL_law_310 (lv_at hl 4 rfl) ?_
  refine k_iconst hx hb dL_law_312 ?_
  refine k_iadd hx hb dL_law_313 ?_
  refine k_sld (x := i + 1) hx hb hX9 hbl hbA hS (by omega) (by omega) hL9 e0 dL_law_314 ?_
  refine lv_aload_n hx hb dL_law_315 rfl (lv_at hl 3 rfl) ?_
  refine k_lh (As := [.ref (ad 0), .int (iI y0), .ref ao]) (rest := []) ⟨hx, hb, hml, hown, hts⟩ (l_add l hfl G ad cy hL.1.1 ao hL.2.1 fo σ (jj_cBd hJ) y0 (by first | assumption | decide)) (vx_cwSW 3 hts gL_law_L_add rfl rfl rfl (by decide +kernel) ⟨Nat.le_of_ble_eq_true rfl, Nat.le_of_ble_eq_true rfl⟩) hA hL hK hX hN3 hW hS rfl hl.1 rfl (Nat.le_of_ble_eq_true rfl) dL_law_316 ⟨by omega, by omega⟩ (fun H locs fo hfo hW hS => ?_)
  refine lv_istore (lv' := [(5, .int (iI (hRes 2 (kAdd σ y0)))), (0, .ref b), (1, .ref (ad 0)), (2, .ref (adM 0)), (3, .ref ao), (4, .int (iI i))]) hx hb dL_law_319 hl (by decide) rfl (fun ls hl => ?_)
  refine lv_aload_n hx hb dL_law_321 rfl (lv_at hl 3 rfl) ?_
  refine lv_aload_n hx hb dL_law_322 rfl (lv_at hl 1 rfl) ?_
  refine lv_iload hx hb dL_law_323 (lv_at hl 5 rfl) ?_
  refine k_iconst hx hb dL_law_325 ?_
  refine k_iadd hx hb dL_law_326 ?_
  refine k_sld (x := i + 1) hx hb hX9 hbl hbA hS (by omega) (by omega) hL9 e0 dL_law_327 ?_
  have hT := t_add hJ y0 (by first | assumption | decide)
  refine k_lm (As := [.int (iI y0)]) (rest := []) ⟨hx, hb, hml, hown, hts⟩ (m_add l G adM cy hL.1.2 M y0 (by first | assumption | decide) (jj_mBd hJ)) (cwV 1 hts gL_law_X3_add rfl rfl rfl (by decide +kernel) ⟨Nat.le_of_ble_eq_true rfl, Nat.le_of_ble_eq_true rfl⟩) hA hL hK hW hS rfl hl.1 rfl (Nat.le_of_ble_eq_true rfl) dL_law_328 ⟨by omega, by omega⟩ (fun H locs hW hS => ?_)
  refine lv_istore (lv' := [(6, .int (iI (rOf (qAdd M y0) (M 0 6)))), (5, .int (iI (hRes 2 (kAdd σ y0)))), (0, .ref b), (1, .ref (ad 0)), (2, .ref (adM 0)), (3, .ref ao), (4, .int (iI i))]) hx hb dL_law_331 hl (by decide) rfl (fun ls hl => ?_)
  refine lv_aload_n hx hb dL_law_333 rfl (lv_at hl 4 rfl) ?_
  refine k_lm (As := []) (rest := []) ⟨hx, hb, hml, hown, hts⟩ (m_thrown l G adM cy hL.1.2 (tOf (qAdd M y0) M (up (gClear (up (up M 0 0 0) 4 (M 0 6).toNat y0) (M 0 6)) 0 6 ((M 0 6) + 1)))) (cwV 0 hts gL_law_X3_thrown rfl rfl rfl (by decide +kernel) ⟨Nat.le_of_ble_eq_true rfl, Nat.le_of_ble_eq_true rfl⟩) hA hL hK hW hS rfl hl.1 rfl (Nat.le_of_ble_eq_true rfl) dL_law_334 ⟨by omega, by omega⟩ (fun H locs hW hS => ?_)
  refine lv_iload hx hb dL_law_337 (lv_at hl 1 rfl) ?_
  refine lv_icmp_eq (tgt := 344) hx hb dL_law_339 (by decide) (fun _ => ?_) (fun c9 => absurd (by rw [hT.1.1]) c9)
  have J9 : W p l e room_1 s m #[Value.ref b] below meth cd H locs (cells + 2) (slots + 6 * 2) Q (F0 m 361 ls []) := by
    refine lv_goto (tgt := 1523) hx hb dL_law_361 (by decide) ?_
    refine W.widen (k := cells + 9) (n := slots + 54) (by omega) (by omega) ?_
    exact kk _ _ _ _ _ _ hT.2.2 hW hS (lv_sub hl [2, 3, 4, 5, 6] rfl)
  refine lv_iload hx hb dL_law_344 (lv_at hl 1 rfl) ?_
  refine lv_if_ne (tgt := 361) hx hb dL_law_346 (by decide) (fun _ => J9) (fun c9 => ?_)
  have h0 : kAdd σ y0 = 0 := hRes_0 hT.1.2 (by decide) c9
  refine lv_aload_n hx hb dL_law_349 rfl (lv_at hl 5 rfl) ?_
  refine k_iconst hx hb dL_law_350 ?_
  refine k_old hx hb hK hW (hfo h0) dL_law_351 ?_
  refine lv_iload hx hb dL_law_352 (lv_at hl 0 rfl) ?_
  refine lv_i2l hx hb dL_law_354 rfl ?_
  refine W.lcmp hx hb dL_law_355 ?_
  refine lv_if_eq (tgt := 361) hx hb dL_law_356 (by decide) (fun _ => J9) (fun c9 => absurd ((lg_cmp_eq _ _).mpr (by rw [hT.2.1 h0])) c9)
set_option maxHeartbeats 4000000 in
set_option maxRecDepth 100000 in
theorem law_farmers {p : Program} {l : Launch} {e : Env} {s : State} {m : MethodId} {below : List Frame} {meth : Method} {cd : Code} {b L : Nat} {xs : Nat → Int32} {Q : State → Prop} {G : va_G} {ad adM : Nat → Nat} {cy : Nat → ClassId} {ao : Nat} {A : Nat → Prop} (C : LwC p l s m cd b L xs G ad adM cy ao A) {σ M : Sg} {fo : Nat → Int64} {H : Heap} {locs : List Loc} {cells slots : Nat} {ls : Array Slot} {i : Int} (hJ : JJ σ M) (hW : LW G ad cy adM ao σ M fo H) (hS : va_S A s.heap H locs) (hl : lv_has ls 7 [(0, .ref b), (1, .ref (ad 0)), (2, .ref (adM 0)), (3, .ref ao), (4, .int (iI i))]) (hi0 : 0 ≤ i) (hi1 : i + 4 ≤ (L : Int)) (hc : cells + 9 ≤ room_1.cells) (hs : slots + 54 ≤ room_1.slots) (kk : ∀ (σ M : Sg) (fo : Nat → Int64) (H : Heap) (locs : List Loc) (ls : Array Slot), JJ σ M → LW G ad cy adM ao σ M fo H → va_S A s.heap H locs → lv_has ls 7 [(0, .ref b), (1, .ref (ad 0)), (2, .ref (adM 0)), (3, .ref ao), (4, .int (iI i))] → W p l e room_1 s m #[Value.ref b] below meth cd H locs (cells + 9) (slots + 54) Q (F0 m 1523 ls [])) : W p l e room_1 s m #[Value.ref b] below meth cd H locs cells slots Q (F0 m 364 ls []) := by
  obtain ⟨⟨hx, hb, hml, hown, hts⟩, ⟨hX9, hbl, hbA, hL9⟩, hL, hA, hK, hX, hN3, hfl⟩ := C
  refine lv_aload_n hx hb dL_law_364 rfl (lv_at hl 1 rfl) ?_
  refine k_lc (As := []) (rest := []) ⟨hx, hb, hml, hown, hts⟩ (h_farmers l G ad cy hL.1.1 σ) (cwV 0 hts gL_law_X2_farmers rfl rfl rfl (by decide +kernel) ⟨Nat.le_of_ble_eq_true rfl, Nat.le_of_ble_eq_true rfl⟩) hA hL hK hW hS rfl hl.1 rfl (Nat.le_of_ble_eq_true rfl) dL_law_365 ⟨by omega, by omega⟩ (fun H locs hW hS => ?_)
  refine lv_aload_n hx hb dL_law_368 rfl (lv_at hl 2 rfl) ?_
  have hG := (jj_cBd hJ).1
  have hE := jj_count hJ
  refine k_lm (As := []) (rest := [.int (iI (σ 0 2))]) ⟨hx, hb, hml, hown, hts⟩ (m_farmers l G adM cy hL.1.2 M (by rw [hE]; have := hG.1; omega)) (cwV 0 hts gL_law_X3_farmers rfl rfl rfl (by decide +kernel) ⟨Nat.le_of_ble_eq_true rfl, Nat.le_of_ble_eq_true rfl⟩) hA hL hK hW hS rfl hl.1 rfl (Nat.le_of_ble_eq_true rfl) dL_law_369 ⟨by omega, by omega⟩ (fun H locs hW hS => ?_)
  refine lv_icmp_eq (tgt := 1523) hx hb dL_law_372 (by decide) (fun _ => ?_) (fun c9 => absurd (by rw [hE]) c9)
  refine W.widen (k := cells + 9) (n := slots + 54) (by omega) (by omega) ?_
  exact kk _ _ _ _ _ _ (jj_rf hJ 0) hW hS hl
set_option maxHeartbeats 4000000 in
set_option maxRecDepth 100000 in
theorem law_plant {p : Program} {l : Launch} {e : Env} {s : State} {m : MethodId} {below : List Frame} {meth : Method} {cd : Code} {b L : Nat} {xs : Nat → Int32} {Q : State → Prop} {G : va_G} {ad adM : Nat → Nat} {cy : Nat → ClassId} {ao : Nat} {A : Nat → Prop} (C : LwC p l s m cd b L xs G ad adM cy ao A) {σ M : Sg} {fo : Nat → Int64} {H : Heap} {locs : List Loc} {cells slots : Nat} {ls : Array Slot} {i : Int} (hJ : JJ σ M) (hW : LW G ad cy adM ao σ M fo H) (hS : va_S A s.heap H locs) (hl : lv_has ls 7 [(0, .ref b), (1, .ref (ad 0)), (2, .ref (adM 0)), (3, .ref ao), (4, .int (iI i))]) (hi0 : 0 ≤ i) (hi1 : i + 4 ≤ (L : Int)) (hc : cells + 9 ≤ room_1.cells) (hs : slots + 54 ≤ room_1.slots) (kk : ∀ (σ M : Sg) (fo : Nat → Int64) (H : Heap) (locs : List Loc) (ls : Array Slot), JJ σ M → LW G ad cy adM ao σ M fo H → va_S A s.heap H locs → lv_has ls 7 [(0, .ref b), (1, .ref (ad 0)), (2, .ref (adM 0)), (3, .ref ao), (4, .int (iI i))] → W p l e room_1 s m #[Value.ref b] below meth cd H locs (cells + 9) (slots + 54) Q (F0 m 1523 ls [])) : W p l e room_1 s m #[Value.ref b] below meth cd H locs cells slots Q (F0 m 377 ls []) := by
  obtain ⟨⟨hx, hb, hml, hown, hts⟩, ⟨hX9, hbl, hbA, hL9⟩, hL, hA, hK, hX, hN3, hfl⟩ := C
  obtain ⟨y0, hy0, e0⟩ := iI_of (xs (i + 1).toNat)
  obtain ⟨y1, hy1, e1⟩ := iI_of (xs (i + 2).toNat)
  obtain ⟨y2, hy2, e2⟩ := iI_of (xs (i + 3).toNat)
  refine lv_aload_n hx hb dL_law_377 rfl (lv_at hl 1 rfl) ?_
  refine lv_aload_n hx hb dL_law_378 rfl (lv_at hl 0 rfl) ?_
  refine lv_iload hx hb dL_law_379 (lv_at hl 4 rfl) ?_
  refine k_iconst hx hb dL_law_381 ?_
  refine k_iadd hx hb dL_law_382 ?_
  refine k_sld (x := i + 1) hx hb hX9 hbl hbA hS (by omega) (by omega) hL9 e0 dL_law_383 ?_
  refine lv_aload_n hx hb dL_law_384 rfl (lv_at hl 0 rfl) ?_
  refine lv_iload hx hb dL_law_385 (lv_at hl 4 rfl) ?_
  refine k_iconst hx hb dL_law_387 ?_
  refine k_iadd hx hb dL_law_388 ?_
  refine k_sld (x := i + 2) hx hb hX9 hbl hbA hS (by omega) (by omega) hL9 e1 dL_law_389 ?_
  refine lv_aload_n hx hb dL_law_390 rfl (lv_at hl 0 rfl) ?_
  refine lv_iload hx hb dL_law_391 (lv_at hl 4 rfl) ?_
  refine k_iconst hx hb dL_law_393 ?_
  refine k_iadd hx hb dL_law_394 ?_
  refine k_sld (x := i + 3) hx hb hX9 hbl hbA hS (by omega) (by omega) hL9 e2 dL_law_395 ?_
  refine lv_aload_n hx hb dL_law_396 rfl (lv_at hl 3 rfl) ?_
  refine k_lh (As := [.ref (ad 0), .int (iI y0), .int (iI y1), .int (iI y2), .ref ao]) (rest := []) ⟨hx, hb, hml, hown, hts⟩ (l_plant l hfl G ad cy hL.1.1 ao hL.2.1 fo σ (jj_cBd hJ) y0 y1 y2 (by first | assumption | decide) (by first | assumption | decide) (by first | assumption | decide)) (vx_cwSW 5 hts gL_law_L_plant rfl rfl rfl (by decide +kernel) ⟨Nat.le_of_ble_eq_true rfl, Nat.le_of_ble_eq_true rfl⟩) hA hL hK hX hN3 hW hS rfl hl.1 rfl (Nat.le_of_ble_eq_true rfl) dL_law_397 ⟨by omega, by omega⟩ (fun H locs fo hfo hW hS => ?_)
  refine lv_istore (lv' := [(5, .int (iI (hRes 3 (kPlant σ y0 y1 y2)))), (0, .ref b), (1, .ref (ad 0)), (2, .ref (adM 0)), (3, .ref ao), (4, .int (iI i))]) hx hb dL_law_400 hl (by decide) rfl (fun ls hl => ?_)
  refine lv_aload_n hx hb dL_law_402 rfl (lv_at hl 3 rfl) ?_
  refine lv_aload_n hx hb dL_law_403 rfl (lv_at hl 1 rfl) ?_
  refine lv_iload hx hb dL_law_404 (lv_at hl 5 rfl) ?_
  refine k_iconst hx hb dL_law_406 ?_
  refine k_iadd hx hb dL_law_407 ?_
  refine k_sld (x := i + 1) hx hb hX9 hbl hbA hS (by omega) (by omega) hL9 e0 dL_law_408 ?_
  refine lv_aload_n hx hb dL_law_409 rfl (lv_at hl 1 rfl) ?_
  refine lv_iload hx hb dL_law_410 (lv_at hl 5 rfl) ?_
  refine k_iconst hx hb dL_law_412 ?_
  refine k_iadd hx hb dL_law_413 ?_
  refine k_sld (x := i + 2) hx hb hX9 hbl hbA hS (by omega) (by omega) hL9 e1 dL_law_414 ?_
  refine lv_aload_n hx hb dL_law_415 rfl (lv_at hl 1 rfl) ?_
  refine lv_iload hx hb dL_law_416 (lv_at hl 5 rfl) ?_
  refine k_iconst hx hb dL_law_418 ?_
  refine k_iadd hx hb dL_law_419 ?_
  refine k_sld (x := i + 3) hx hb hX9 hbl hbA hS (by omega) (by omega) hL9 e2 dL_law_420 ?_
  have hT := t_plant hJ y0 y1 y2 (by first | assumption | decide) (by first | assumption | decide) (by first | assumption | decide)
  refine k_lm (As := [.int (iI y0), .int (iI y1), .int (iI y2)]) (rest := []) ⟨hx, hb, hml, hown, hts⟩ (m_plant l G adM cy hL.1.2 M y0 y1 y2 (by first | assumption | decide) (by first | assumption | decide) (by first | assumption | decide) (jj_mBd hJ)) (cwV 3 hts gL_law_X3_plant rfl rfl rfl (by decide +kernel) ⟨Nat.le_of_ble_eq_true rfl, Nat.le_of_ble_eq_true rfl⟩) hA hL hK hW hS rfl hl.1 rfl (Nat.le_of_ble_eq_true rfl) dL_law_421 ⟨by omega, by omega⟩ (fun H locs hW hS => ?_)
  refine lv_istore (lv' := [(6, .int (iI (rOf (qPlant M y0 y1 y2) (gLimit (up (up (up M 0 0 0) 13 y0.toNat y1) 14 y0.toNat y2) y0)))), (5, .int (iI (hRes 3 (kPlant σ y0 y1 y2)))), (0, .ref b), (1, .ref (ad 0)), (2, .ref (adM 0)), (3, .ref ao), (4, .int (iI i))]) hx hb dL_law_424 hl (by decide) rfl (fun ls hl => ?_)
  refine lv_aload_n hx hb dL_law_426 rfl (lv_at hl 4 rfl) ?_
  refine k_lm (As := []) (rest := []) ⟨hx, hb, hml, hown, hts⟩ (m_thrown l G adM cy hL.1.2 (tOf (qPlant M y0 y1 y2) M (up (up (up M 0 0 0) 13 y0.toNat y1) 14 y0.toNat y2))) (cwV 0 hts gL_law_X3_thrown rfl rfl rfl (by decide +kernel) ⟨Nat.le_of_ble_eq_true rfl, Nat.le_of_ble_eq_true rfl⟩) hA hL hK hW hS rfl hl.1 rfl (Nat.le_of_ble_eq_true rfl) dL_law_427 ⟨by omega, by omega⟩ (fun H locs hW hS => ?_)
  refine lv_iload hx hb dL_law_430 (lv_at hl 1 rfl) ?_
  refine lv_icmp_eq (tgt := 437) hx hb dL_law_432 (by decide) (fun _ => ?_) (fun c9 => absurd (by rw [hT.1.1]) c9)
  have J9 : W p l e room_1 s m #[Value.ref b] below meth cd H locs (cells + 5) (slots + 6 * 5) Q (F0 m 454 ls []) := by
    refine lv_goto (tgt := 1523) hx hb dL_law_454 (by decide) ?_
    refine W.widen (k := cells + 9) (n := slots + 54) (by omega) (by omega) ?_
    exact kk _ _ _ _ _ _ hT.2.2 hW hS (lv_sub hl [2, 3, 4, 5, 6] rfl)
  refine lv_iload hx hb dL_law_437 (lv_at hl 1 rfl) ?_
  refine lv_if_ne (tgt := 454) hx hb dL_law_439 (by decide) (fun _ => J9) (fun c9 => ?_)
  have h0 : kPlant σ y0 y1 y2 = 0 := hRes_0 hT.1.2 (by decide) c9
  refine lv_aload_n hx hb dL_law_442 rfl (lv_at hl 5 rfl) ?_
  refine k_iconst hx hb dL_law_443 ?_
  refine k_old hx hb hK hW (hfo h0) dL_law_444 ?_
  refine lv_iload hx hb dL_law_445 (lv_at hl 0 rfl) ?_
  refine lv_i2l hx hb dL_law_447 rfl ?_
  refine W.lcmp hx hb dL_law_448 ?_
  refine lv_if_eq (tgt := 454) hx hb dL_law_449 (by decide) (fun _ => J9) (fun c9 => absurd ((lg_cmp_eq _ _).mpr (by rw [hT.2.1 h0])) c9)
set_option maxHeartbeats 4000000 in
set_option maxRecDepth 100000 in
theorem law_cover {p : Program} {l : Launch} {e : Env} {s : State} {m : MethodId} {below : List Frame} {meth : Method} {cd : Code} {b L : Nat} {xs : Nat → Int32} {Q : State → Prop} {G : va_G} {ad adM : Nat → Nat} {cy : Nat → ClassId} {ao : Nat} {A : Nat → Prop} (C : LwC p l s m cd b L xs G ad adM cy ao A) {σ M : Sg} {fo : Nat → Int64} {H : Heap} {locs : List Loc} {cells slots : Nat} {ls : Array Slot} {i : Int} (hJ : JJ σ M) (hW : LW G ad cy adM ao σ M fo H) (hS : va_S A s.heap H locs) (hl : lv_has ls 7 [(0, .ref b), (1, .ref (ad 0)), (2, .ref (adM 0)), (3, .ref ao), (4, .int (iI i))]) (hi0 : 0 ≤ i) (hi1 : i + 4 ≤ (L : Int)) (hc : cells + 9 ≤ room_1.cells) (hs : slots + 54 ≤ room_1.slots) (kk : ∀ (σ M : Sg) (fo : Nat → Int64) (H : Heap) (locs : List Loc) (ls : Array Slot), JJ σ M → LW G ad cy adM ao σ M fo H → va_S A s.heap H locs → lv_has ls 7 [(0, .ref b), (1, .ref (ad 0)), (2, .ref (adM 0)), (3, .ref ao), (4, .int (iI i))] → W p l e room_1 s m #[Value.ref b] below meth cd H locs (cells + 9) (slots + 54) Q (F0 m 1523 ls [])) : W p l e room_1 s m #[Value.ref b] below meth cd H locs cells slots Q (F0 m 457 ls []) := by
  obtain ⟨⟨hx, hb, hml, hown, hts⟩, ⟨hX9, hbl, hbA, hL9⟩, hL, hA, hK, hX, hN3, hfl⟩ := C
  obtain ⟨y0, hy0, e0⟩ := iI_of (xs (i + 1).toNat)
  obtain ⟨y1, hy1, e1⟩ := iI_of (xs (i + 2).toNat)
  refine lv_aload_n hx hb dL_law_457 rfl (lv_at hl 1 rfl) ?_
  refine lv_aload_n hx hb dL_law_458 rfl (lv_at hl 0 rfl) ?_
  refine lv_iload hx hb dL_law_459 (lv_at hl 4 rfl) ?_
  refine k_iconst hx hb dL_law_461 ?_
  refine k_iadd hx hb dL_law_462 ?_
  refine k_sld (x := i + 1) hx hb hX9 hbl hbA hS (by omega) (by omega) hL9 e0 dL_law_463 ?_
  refine lv_aload_n hx hb dL_law_464 rfl (lv_at hl 0 rfl) ?_
  refine lv_iload hx hb dL_law_465 (lv_at hl 4 rfl) ?_
  refine k_iconst hx hb dL_law_467 ?_
  refine k_iadd hx hb dL_law_468 ?_
  refine k_sld (x := i + 2) hx hb hX9 hbl hbA hS (by omega) (by omega) hL9 e1 dL_law_469 ?_
  refine lv_aload_n hx hb dL_law_470 rfl (lv_at hl 3 rfl) ?_
  refine k_lh (As := [.ref (ad 0), .int (iI y0), .int (iI y1), .ref ao]) (rest := []) ⟨hx, hb, hml, hown, hts⟩ (l_cover l hfl G ad cy hL.1.1 ao hL.2.1 fo σ (jj_cBd hJ) y0 y1 (by first | assumption | decide) (by first | assumption | decide)) (vx_cwSW 4 hts gL_law_L_cover rfl rfl rfl (by decide +kernel) ⟨Nat.le_of_ble_eq_true rfl, Nat.le_of_ble_eq_true rfl⟩) hA hL hK hX hN3 hW hS rfl hl.1 rfl (Nat.le_of_ble_eq_true rfl) dL_law_471 ⟨by omega, by omega⟩ (fun H locs fo hfo hW hS => ?_)
  refine lv_istore (lv' := [(5, .int (iI (hRes 3 (kCover σ y0 y1)))), (0, .ref b), (1, .ref (ad 0)), (2, .ref (adM 0)), (3, .ref ao), (4, .int (iI i))]) hx hb dL_law_474 hl (by decide) rfl (fun ls hl => ?_)
  refine lv_aload_n hx hb dL_law_476 rfl (lv_at hl 3 rfl) ?_
  refine lv_aload_n hx hb dL_law_477 rfl (lv_at hl 1 rfl) ?_
  refine lv_iload hx hb dL_law_478 (lv_at hl 5 rfl) ?_
  refine k_iconst hx hb dL_law_480 ?_
  refine k_iadd hx hb dL_law_481 ?_
  refine k_sld (x := i + 1) hx hb hX9 hbl hbA hS (by omega) (by omega) hL9 e0 dL_law_482 ?_
  refine lv_aload_n hx hb dL_law_483 rfl (lv_at hl 1 rfl) ?_
  refine lv_iload hx hb dL_law_484 (lv_at hl 5 rfl) ?_
  refine k_iconst hx hb dL_law_486 ?_
  refine k_iadd hx hb dL_law_487 ?_
  refine k_sld (x := i + 2) hx hb hX9 hbl hbA hS (by omega) (by omega) hL9 e1 dL_law_488 ?_
  have hT := t_cover hJ y0 y1 (by first | assumption | decide) (by first | assumption | decide)
  refine k_lm (As := [.int (iI y0), .int (iI y1)]) (rest := []) ⟨hx, hb, hml, hown, hts⟩ (m_cover l G adM cy hL.1.2 M y0 y1 (by first | assumption | decide) (by first | assumption | decide) (jj_mBd hJ)) (cwV 2 hts gL_law_X3_cover rfl rfl rfl (by decide +kernel) ⟨Nat.le_of_ble_eq_true rfl, Nat.le_of_ble_eq_true rfl⟩) hA hL hK hW hS rfl hl.1 rfl (Nat.le_of_ble_eq_true rfl) dL_law_489 ⟨by omega, by omega⟩ (fun H locs hW hS => ?_)
  refine lv_istore (lv' := [(6, .int (iI (rOf (qCover M y0 y1) (M 16 y0.toNat)))), (5, .int (iI (hRes 3 (kCover σ y0 y1)))), (0, .ref b), (1, .ref (ad 0)), (2, .ref (adM 0)), (3, .ref ao), (4, .int (iI i))]) hx hb dL_law_492 hl (by decide) rfl (fun ls hl => ?_)
  refine lv_aload_n hx hb dL_law_494 rfl (lv_at hl 4 rfl) ?_
  refine k_lm (As := []) (rest := []) ⟨hx, hb, hml, hown, hts⟩ (m_thrown l G adM cy hL.1.2 (tOf (qCover M y0 y1) M (up (up M 0 0 0) 16 y0.toNat y1))) (cwV 0 hts gL_law_X3_thrown rfl rfl rfl (by decide +kernel) ⟨Nat.le_of_ble_eq_true rfl, Nat.le_of_ble_eq_true rfl⟩) hA hL hK hW hS rfl hl.1 rfl (Nat.le_of_ble_eq_true rfl) dL_law_495 ⟨by omega, by omega⟩ (fun H locs hW hS => ?_)
  refine lv_iload hx hb dL_law_498 (lv_at hl 1 rfl) ?_
  refine lv_icmp_eq (tgt := 505) hx hb dL_law_500 (by decide) (fun _ => ?_) (fun c9 => absurd (by rw [hT.1.1]) c9)
  have J9 : W p l e room_1 s m #[Value.ref b] below meth cd H locs (cells + 3) (slots + 6 * 3) Q (F0 m 522 ls []) := by
    refine lv_goto (tgt := 1523) hx hb dL_law_522 (by decide) ?_
    refine W.widen (k := cells + 9) (n := slots + 54) (by omega) (by omega) ?_
    exact kk _ _ _ _ _ _ hT.2.2 hW hS (lv_sub hl [2, 3, 4, 5, 6] rfl)
  refine lv_iload hx hb dL_law_505 (lv_at hl 1 rfl) ?_
  refine lv_if_ne (tgt := 522) hx hb dL_law_507 (by decide) (fun _ => J9) (fun c9 => ?_)
  have h0 : kCover σ y0 y1 = 0 := hRes_0 hT.1.2 (by decide) c9
  refine lv_aload_n hx hb dL_law_510 rfl (lv_at hl 5 rfl) ?_
  refine k_iconst hx hb dL_law_511 ?_
  refine k_old hx hb hK hW (hfo h0) dL_law_512 ?_
  refine lv_iload hx hb dL_law_513 (lv_at hl 0 rfl) ?_
  refine lv_i2l hx hb dL_law_515 rfl ?_
  refine W.lcmp hx hb dL_law_516 ?_
  refine lv_if_eq (tgt := 522) hx hb dL_law_517 (by decide) (fun _ => J9) (fun c9 => absurd ((lg_cmp_eq _ _).mpr (by rw [hT.2.1 h0])) c9)
set_option maxHeartbeats 4000000 in
set_option maxRecDepth 100000 in
theorem law_draw {p : Program} {l : Launch} {e : Env} {s : State} {m : MethodId} {below : List Frame} {meth : Method} {cd : Code} {b L : Nat} {xs : Nat → Int32} {Q : State → Prop} {G : va_G} {ad adM : Nat → Nat} {cy : Nat → ClassId} {ao : Nat} {A : Nat → Prop} (C : LwC p l s m cd b L xs G ad adM cy ao A) {σ M : Sg} {fo : Nat → Int64} {H : Heap} {locs : List Loc} {cells slots : Nat} {ls : Array Slot} {i : Int} (hJ : JJ σ M) (hW : LW G ad cy adM ao σ M fo H) (hS : va_S A s.heap H locs) (hl : lv_has ls 7 [(0, .ref b), (1, .ref (ad 0)), (2, .ref (adM 0)), (3, .ref ao), (4, .int (iI i))]) (hi0 : 0 ≤ i) (hi1 : i + 4 ≤ (L : Int)) (hc : cells + 9 ≤ room_1.cells) (hs : slots + 54 ≤ room_1.slots) (kk : ∀ (σ M : Sg) (fo : Nat → Int64) (H : Heap) (locs : List Loc) (ls : Array Slot), JJ σ M → LW G ad cy adM ao σ M fo H → va_S A s.heap H locs → lv_has ls 7 [(0, .ref b), (1, .ref (ad 0)), (2, .ref (adM 0)), (3, .ref ao), (4, .int (iI i))] → W p l e room_1 s m #[Value.ref b] below meth cd H locs (cells + 9) (slots + 54) Q (F0 m 1523 ls [])) : W p l e room_1 s m #[Value.ref b] below meth cd H locs cells slots Q (F0 m 525 ls []) := by
  obtain ⟨⟨hx, hb, hml, hown, hts⟩, ⟨hX9, hbl, hbA, hL9⟩, hL, hA, hK, hX, hN3, hfl⟩ := C
  obtain ⟨y0, hy0, e0⟩ := iI_of (xs (i + 1).toNat)
  obtain ⟨y1, hy1, e1⟩ := iI_of (xs (i + 2).toNat)
  refine lv_aload_n hx hb dL_law_525 rfl (lv_at hl 1 rfl) ?_
  refine lv_aload_n hx hb dL_law_526 rfl (lv_at hl 0 rfl) ?_
  refine lv_iload hx hb dL_law_527 (lv_at hl 4 rfl) ?_
  refine k_iconst hx hb dL_law_529 ?_
  refine k_iadd hx hb dL_law_530 ?_
  refine k_sld (x := i + 1) hx hb hX9 hbl hbA hS (by omega) (by omega) hL9 e0 dL_law_531 ?_
  refine lv_aload_n hx hb dL_law_532 rfl (lv_at hl 0 rfl) ?_
  refine lv_iload hx hb dL_law_533 (lv_at hl 4 rfl) ?_
  refine k_iconst hx hb dL_law_535 ?_
  refine k_iadd hx hb dL_law_536 ?_
  refine k_sld (x := i + 2) hx hb hX9 hbl hbA hS (by omega) (by omega) hL9 e1 dL_law_537 ?_
  refine lv_aload_n hx hb dL_law_538 rfl (lv_at hl 3 rfl) ?_
  refine k_lh (As := [.ref (ad 0), .int (iI y0), .int (iI y1), .ref ao]) (rest := []) ⟨hx, hb, hml, hown, hts⟩ (l_draw l hfl G ad cy hL.1.1 ao hL.2.1 fo σ (jj_cBd hJ) y0 y1 (by first | assumption | decide) (by first | assumption | decide)) (vx_cwSW 4 hts gL_law_L_draw rfl rfl rfl (by decide +kernel) ⟨Nat.le_of_ble_eq_true rfl, Nat.le_of_ble_eq_true rfl⟩) hA hL hK hX hN3 hW hS rfl hl.1 rfl (Nat.le_of_ble_eq_true rfl) dL_law_539 ⟨by omega, by omega⟩ (fun H locs fo hfo hW hS => ?_)
  refine lv_istore (lv' := [(5, .int (iI (hRes 3 (kDraw σ y0 y1)))), (0, .ref b), (1, .ref (ad 0)), (2, .ref (adM 0)), (3, .ref ao), (4, .int (iI i))]) hx hb dL_law_542 hl (by decide) rfl (fun ls hl => ?_)
  refine lv_aload_n hx hb dL_law_544 rfl (lv_at hl 3 rfl) ?_
  refine lv_aload_n hx hb dL_law_545 rfl (lv_at hl 1 rfl) ?_
  refine lv_iload hx hb dL_law_546 (lv_at hl 5 rfl) ?_
  refine k_iconst hx hb dL_law_548 ?_
  refine k_iadd hx hb dL_law_549 ?_
  refine k_sld (x := i + 1) hx hb hX9 hbl hbA hS (by omega) (by omega) hL9 e0 dL_law_550 ?_
  refine lv_aload_n hx hb dL_law_551 rfl (lv_at hl 1 rfl) ?_
  refine lv_iload hx hb dL_law_552 (lv_at hl 5 rfl) ?_
  refine k_iconst hx hb dL_law_554 ?_
  refine k_iadd hx hb dL_law_555 ?_
  refine k_sld (x := i + 2) hx hb hX9 hbl hbA hS (by omega) (by omega) hL9 e1 dL_law_556 ?_
  have hT := t_draw hJ y0 y1 (by first | assumption | decide) (by first | assumption | decide)
  refine k_lm (As := [.int (iI y0), .int (iI y1)]) (rest := []) ⟨hx, hb, hml, hown, hts⟩ (m_draw l G adM cy hL.1.2 M y0 y1 (by first | assumption | decide) (by first | assumption | decide) (jj_mBd hJ)) (cwV 2 hts gL_law_X3_draw rfl rfl rfl (by decide +kernel) ⟨Nat.le_of_ble_eq_true rfl, Nat.le_of_ble_eq_true rfl⟩) hA hL hK hW hS rfl hl.1 rfl (Nat.le_of_ble_eq_true rfl) dL_law_557 ⟨by omega, by omega⟩ (fun H locs hW hS => ?_)
  refine lv_istore (lv' := [(6, .int (iI (rOf (qDraw M y0 y1) (gLimit (gCharge (up (up M 0 0 0) 15 y0.toNat (M 15 y0.toNat + y1)) y0 y1) y0 - (M 15 y0.toNat + y1))))), (5, .int (iI (hRes 3 (kDraw σ y0 y1)))), (0, .ref b), (1, .ref (ad 0)), (2, .ref (adM 0)), (3, .ref ao), (4, .int (iI i))]) hx hb dL_law_560 hl (by decide) rfl (fun ls hl => ?_)
  refine lv_aload_n hx hb dL_law_562 rfl (lv_at hl 4 rfl) ?_
  refine k_lm (As := []) (rest := []) ⟨hx, hb, hml, hown, hts⟩ (m_thrown l G adM cy hL.1.2 (tOf (qDraw M y0 y1) M (gCharge (up (up M 0 0 0) 15 y0.toNat (M 15 y0.toNat + y1)) y0 y1))) (cwV 0 hts gL_law_X3_thrown rfl rfl rfl (by decide +kernel) ⟨Nat.le_of_ble_eq_true rfl, Nat.le_of_ble_eq_true rfl⟩) hA hL hK hW hS rfl hl.1 rfl (Nat.le_of_ble_eq_true rfl) dL_law_563 ⟨by omega, by omega⟩ (fun H locs hW hS => ?_)
  refine lv_iload hx hb dL_law_566 (lv_at hl 1 rfl) ?_
  refine lv_icmp_eq (tgt := 573) hx hb dL_law_568 (by decide) (fun _ => ?_) (fun c9 => absurd (by rw [hT.1.1]) c9)
  have J9 : W p l e room_1 s m #[Value.ref b] below meth cd H locs (cells + 5) (slots + 6 * 5) Q (F0 m 590 ls []) := by
    refine lv_goto (tgt := 1523) hx hb dL_law_590 (by decide) ?_
    refine W.widen (k := cells + 9) (n := slots + 54) (by omega) (by omega) ?_
    exact kk _ _ _ _ _ _ hT.2.2 hW hS (lv_sub hl [2, 3, 4, 5, 6] rfl)
  refine lv_iload hx hb dL_law_573 (lv_at hl 1 rfl) ?_
  refine lv_if_ne (tgt := 590) hx hb dL_law_575 (by decide) (fun _ => J9) (fun c9 => ?_)
  have h0 : kDraw σ y0 y1 = 0 := hRes_0 hT.1.2 (by decide) c9
  refine lv_aload_n hx hb dL_law_578 rfl (lv_at hl 5 rfl) ?_
  refine k_iconst hx hb dL_law_579 ?_
  refine k_old hx hb hK hW (hfo h0) dL_law_580 ?_
  refine lv_iload hx hb dL_law_581 (lv_at hl 0 rfl) ?_
  refine lv_i2l hx hb dL_law_583 rfl ?_
  refine W.lcmp hx hb dL_law_584 ?_
  refine lv_if_eq (tgt := 590) hx hb dL_law_585 (by decide) (fun _ => J9) (fun c9 => absurd ((lg_cmp_eq _ _).mpr (by rw [hT.2.1 h0])) c9)
set_option maxHeartbeats 4000000 in
set_option maxRecDepth 100000 in
theorem law_setYield {p : Program} {l : Launch} {e : Env} {s : State} {m : MethodId} {below : List Frame} {meth : Method} {cd : Code} {b L : Nat} {xs : Nat → Int32} {Q : State → Prop} {G : va_G} {ad adM : Nat → Nat} {cy : Nat → ClassId} {ao : Nat} {A : Nat → Prop} (C : LwC p l s m cd b L xs G ad adM cy ao A) {σ M : Sg} {fo : Nat → Int64} {H : Heap} {locs : List Loc} {cells slots : Nat} {ls : Array Slot} {i : Int} (hJ : JJ σ M) (hW : LW G ad cy adM ao σ M fo H) (hS : va_S A s.heap H locs) (hl : lv_has ls 7 [(0, .ref b), (1, .ref (ad 0)), (2, .ref (adM 0)), (3, .ref ao), (4, .int (iI i))]) (hi0 : 0 ≤ i) (hi1 : i + 4 ≤ (L : Int)) (hc : cells + 9 ≤ room_1.cells) (hs : slots + 54 ≤ room_1.slots) (kk : ∀ (σ M : Sg) (fo : Nat → Int64) (H : Heap) (locs : List Loc) (ls : Array Slot), JJ σ M → LW G ad cy adM ao σ M fo H → va_S A s.heap H locs → lv_has ls 7 [(0, .ref b), (1, .ref (ad 0)), (2, .ref (adM 0)), (3, .ref ao), (4, .int (iI i))] → W p l e room_1 s m #[Value.ref b] below meth cd H locs (cells + 9) (slots + 54) Q (F0 m 1523 ls [])) : W p l e room_1 s m #[Value.ref b] below meth cd H locs cells slots Q (F0 m 593 ls []) := by
  obtain ⟨⟨hx, hb, hml, hown, hts⟩, ⟨hX9, hbl, hbA, hL9⟩, hL, hA, hK, hX, hN3, hfl⟩ := C
  obtain ⟨y0, hy0, e0⟩ := iI_of (xs (i + 1).toNat)
  obtain ⟨y1, hy1, e1⟩ := iI_of (xs (i + 2).toNat)
  refine lv_aload_n hx hb dL_law_593 rfl (lv_at hl 1 rfl) ?_
  refine lv_aload_n hx hb dL_law_594 rfl (lv_at hl 0 rfl) ?_
  refine lv_iload hx hb dL_law_595 (lv_at hl 4 rfl) ?_
  refine k_iconst hx hb dL_law_597 ?_
  refine k_iadd hx hb dL_law_598 ?_
  refine k_sld (x := i + 1) hx hb hX9 hbl hbA hS (by omega) (by omega) hL9 e0 dL_law_599 ?_
  refine lv_aload_n hx hb dL_law_600 rfl (lv_at hl 0 rfl) ?_
  refine lv_iload hx hb dL_law_601 (lv_at hl 4 rfl) ?_
  refine k_iconst hx hb dL_law_603 ?_
  refine k_iadd hx hb dL_law_604 ?_
  refine k_sld (x := i + 2) hx hb hX9 hbl hbA hS (by omega) (by omega) hL9 e1 dL_law_605 ?_
  refine lv_aload_n hx hb dL_law_606 rfl (lv_at hl 3 rfl) ?_
  refine k_lh (As := [.ref (ad 0), .int (iI y0), .int (iI y1), .ref ao]) (rest := []) ⟨hx, hb, hml, hown, hts⟩ (l_setYield l hfl G ad cy hL.1.1 ao hL.2.1 fo σ (jj_cBd hJ) y0 y1 (by first | assumption | decide) (by first | assumption | decide)) (vx_cwSW 4 hts gL_law_L_setYield rfl rfl rfl (by decide +kernel) ⟨Nat.le_of_ble_eq_true rfl, Nat.le_of_ble_eq_true rfl⟩) hA hL hK hX hN3 hW hS rfl hl.1 rfl (Nat.le_of_ble_eq_true rfl) dL_law_607 ⟨by omega, by omega⟩ (fun H locs fo hfo hW hS => ?_)
  refine lv_istore (lv' := [(5, .int (iI (hRes 3 (kYield σ y0 y1)))), (0, .ref b), (1, .ref (ad 0)), (2, .ref (adM 0)), (3, .ref ao), (4, .int (iI i))]) hx hb dL_law_610 hl (by decide) rfl (fun ls hl => ?_)
  refine lv_aload_n hx hb dL_law_612 rfl (lv_at hl 3 rfl) ?_
  refine lv_aload_n hx hb dL_law_613 rfl (lv_at hl 1 rfl) ?_
  refine lv_iload hx hb dL_law_614 (lv_at hl 5 rfl) ?_
  refine k_iconst hx hb dL_law_616 ?_
  refine k_iadd hx hb dL_law_617 ?_
  refine k_sld (x := i + 1) hx hb hX9 hbl hbA hS (by omega) (by omega) hL9 e0 dL_law_618 ?_
  refine lv_aload_n hx hb dL_law_619 rfl (lv_at hl 1 rfl) ?_
  refine lv_iload hx hb dL_law_620 (lv_at hl 5 rfl) ?_
  refine k_iconst hx hb dL_law_622 ?_
  refine k_iadd hx hb dL_law_623 ?_
  refine k_sld (x := i + 2) hx hb hX9 hbl hbA hS (by omega) (by omega) hL9 e1 dL_law_624 ?_
  have hT := t_setYield hJ y0 y1 (by first | assumption | decide) (by first | assumption | decide)
  refine k_lm (As := [.int (iI y0), .int (iI y1)]) (rest := []) ⟨hx, hb, hml, hown, hts⟩ (m_setYield l G adM cy hL.1.2 M y0 y1 (by first | assumption | decide) (by first | assumption | decide) (jj_mBd hJ)) (cwV 2 hts gL_law_X3_setYield rfl rfl rfl (by decide +kernel) ⟨Nat.le_of_ble_eq_true rfl, Nat.le_of_ble_eq_true rfl⟩) hA hL hK hW hS rfl hl.1 rfl (Nat.le_of_ble_eq_true rfl) dL_law_625 ⟨by omega, by omega⟩ (fun H locs hW hS => ?_)
  refine lv_istore (lv' := [(6, .int (iI (rOf (qYield M y0 y1) (M 17 y0.toNat)))), (5, .int (iI (hRes 3 (kYield σ y0 y1)))), (0, .ref b), (1, .ref (ad 0)), (2, .ref (adM 0)), (3, .ref ao), (4, .int (iI i))]) hx hb dL_law_628 hl (by decide) rfl (fun ls hl => ?_)
  refine lv_aload_n hx hb dL_law_630 rfl (lv_at hl 4 rfl) ?_
  refine k_lm (As := []) (rest := []) ⟨hx, hb, hml, hown, hts⟩ (m_thrown l G adM cy hL.1.2 (tOf (qYield M y0 y1) M (up (up M 0 0 0) 17 y0.toNat y1))) (cwV 0 hts gL_law_X3_thrown rfl rfl rfl (by decide +kernel) ⟨Nat.le_of_ble_eq_true rfl, Nat.le_of_ble_eq_true rfl⟩) hA hL hK hW hS rfl hl.1 rfl (Nat.le_of_ble_eq_true rfl) dL_law_631 ⟨by omega, by omega⟩ (fun H locs hW hS => ?_)
  refine lv_iload hx hb dL_law_634 (lv_at hl 1 rfl) ?_
  refine lv_icmp_eq (tgt := 641) hx hb dL_law_636 (by decide) (fun _ => ?_) (fun c9 => absurd (by rw [hT.1.1]) c9)
  have J9 : W p l e room_1 s m #[Value.ref b] below meth cd H locs (cells + 3) (slots + 6 * 3) Q (F0 m 658 ls []) := by
    refine lv_goto (tgt := 1523) hx hb dL_law_658 (by decide) ?_
    refine W.widen (k := cells + 9) (n := slots + 54) (by omega) (by omega) ?_
    exact kk _ _ _ _ _ _ hT.2.2 hW hS (lv_sub hl [2, 3, 4, 5, 6] rfl)
  refine lv_iload hx hb dL_law_641 (lv_at hl 1 rfl) ?_
  refine lv_if_ne (tgt := 658) hx hb dL_law_643 (by decide) (fun _ => J9) (fun c9 => ?_)
  have h0 : kYield σ y0 y1 = 0 := hRes_0 hT.1.2 (by decide) c9
  refine lv_aload_n hx hb dL_law_646 rfl (lv_at hl 5 rfl) ?_
  refine k_iconst hx hb dL_law_647 ?_
  refine k_old hx hb hK hW (hfo h0) dL_law_648 ?_
  refine lv_iload hx hb dL_law_649 (lv_at hl 0 rfl) ?_
  refine lv_i2l hx hb dL_law_651 rfl ?_
  refine W.lcmp hx hb dL_law_652 ?_
  refine lv_if_eq (tgt := 658) hx hb dL_law_653 (by decide) (fun _ => J9) (fun c9 => absurd ((lg_cmp_eq _ _).mpr (by rw [hT.2.1 h0])) c9)
set_option maxHeartbeats 4000000 in
set_option maxRecDepth 100000 in
theorem law_next {p : Program} {l : Launch} {e : Env} {s : State} {m : MethodId} {below : List Frame} {meth : Method} {cd : Code} {b L : Nat} {xs : Nat → Int32} {Q : State → Prop} {G : va_G} {ad adM : Nat → Nat} {cy : Nat → ClassId} {ao : Nat} {A : Nat → Prop} (C : LwC p l s m cd b L xs G ad adM cy ao A) {σ M : Sg} {fo : Nat → Int64} {H : Heap} {locs : List Loc} {cells slots : Nat} {ls : Array Slot} {i : Int} (hJ : JJ σ M) (hW : LW G ad cy adM ao σ M fo H) (hS : va_S A s.heap H locs) (hl : lv_has ls 7 [(0, .ref b), (1, .ref (ad 0)), (2, .ref (adM 0)), (3, .ref ao), (4, .int (iI i))]) (hi0 : 0 ≤ i) (hi1 : i + 4 ≤ (L : Int)) (hc : cells + 9 ≤ room_1.cells) (hs : slots + 54 ≤ room_1.slots) (kk : ∀ (σ M : Sg) (fo : Nat → Int64) (H : Heap) (locs : List Loc) (ls : Array Slot), JJ σ M → LW G ad cy adM ao σ M fo H → va_S A s.heap H locs → lv_has ls 7 [(0, .ref b), (1, .ref (ad 0)), (2, .ref (adM 0)), (3, .ref ao), (4, .int (iI i))] → W p l e room_1 s m #[Value.ref b] below meth cd H locs (cells + 9) (slots + 54) Q (F0 m 1523 ls [])) : W p l e room_1 s m #[Value.ref b] below meth cd H locs cells slots Q (F0 m 661 ls []) := by
  obtain ⟨⟨hx, hb, hml, hown, hts⟩, ⟨hX9, hbl, hbA, hL9⟩, hL, hA, hK, hX, hN3, hfl⟩ := C
  refine lv_aload_n hx hb dL_law_661 rfl (lv_at hl 1 rfl) ?_
  refine lv_aload_n hx hb dL_law_662 rfl (lv_at hl 3 rfl) ?_
  refine k_lh (As := [.ref (ad 0), .ref ao]) (rest := []) ⟨hx, hb, hml, hown, hts⟩ (l_next l hfl G ad cy hL.1.1 ao hL.2.1 fo σ (jj_cBd hJ)  ) (vx_cwSW 2 hts gL_law_L_next rfl rfl rfl (by decide +kernel) ⟨Nat.le_of_ble_eq_true rfl, Nat.le_of_ble_eq_true rfl⟩) hA hL hK hX hN3 hW hS rfl hl.1 rfl (Nat.le_of_ble_eq_true rfl) dL_law_663 ⟨by omega, by omega⟩ (fun H locs fo hfo hW hS => ?_)
  refine lv_istore (lv' := [(5, .int (iI (hRes 1 (kNext σ)))), (0, .ref b), (1, .ref (ad 0)), (2, .ref (adM 0)), (3, .ref ao), (4, .int (iI i))]) hx hb dL_law_666 hl (by decide) rfl (fun ls hl => ?_)
  refine lv_aload_n hx hb dL_law_668 rfl (lv_at hl 3 rfl) ?_
  have hT := t_next hJ  
  refine k_lm (As := []) (rest := []) ⟨hx, hb, hml, hown, hts⟩ (m_next l G adM cy hL.1.2 M   (jj_mBd hJ) (jj_next1 hJ) (jj_next2 hJ)) (cwV 0 hts gL_law_X3_next rfl rfl rfl (by decide +kernel) ⟨Nat.le_of_ble_eq_true rfl, Nat.le_of_ble_eq_true rfl⟩) hA hL hK hW hS rfl hl.1 rfl (Nat.le_of_ble_eq_true rfl) dL_law_669 ⟨by omega, by omega⟩ (fun H locs hW hS => ?_)
  refine lv_istore (lv' := [(6, .int (iI (rOf (qNext M) (M 0 2 + 1)))), (5, .int (iI (hRes 1 (kNext σ)))), (0, .ref b), (1, .ref (ad 0)), (2, .ref (adM 0)), (3, .ref ao), (4, .int (iI i))]) hx hb dL_law_672 hl (by decide) rfl (fun ls hl => ?_)
  refine lv_aload_n hx hb dL_law_674 rfl (lv_at hl 4 rfl) ?_
  refine k_lm (As := []) (rest := []) ⟨hx, hb, hml, hown, hts⟩ (m_thrown l G adM cy hL.1.2 (tOf (qNext M) M (gNext M))) (cwV 0 hts gL_law_X3_thrown rfl rfl rfl (by decide +kernel) ⟨Nat.le_of_ble_eq_true rfl, Nat.le_of_ble_eq_true rfl⟩) hA hL hK hW hS rfl hl.1 rfl (Nat.le_of_ble_eq_true rfl) dL_law_675 ⟨by omega, by omega⟩ (fun H locs hW hS => ?_)
  refine lv_iload hx hb dL_law_678 (lv_at hl 1 rfl) ?_
  refine lv_icmp_eq (tgt := 685) hx hb dL_law_680 (by decide) (fun _ => ?_) (fun c9 => absurd (by rw [hT.1.1]) c9)
  have J9 : W p l e room_1 s m #[Value.ref b] below meth cd H locs (cells + 9) (slots + 6 * 9) Q (F0 m 702 ls []) := by
    refine lv_goto (tgt := 1523) hx hb dL_law_702 (by decide) ?_
    refine W.widen (k := cells + 9) (n := slots + 54) (by omega) (by omega) ?_
    exact kk _ _ _ _ _ _ hT.2.2 hW hS (lv_sub hl [2, 3, 4, 5, 6] rfl)
  refine lv_iload hx hb dL_law_685 (lv_at hl 1 rfl) ?_
  refine lv_if_ne (tgt := 702) hx hb dL_law_687 (by decide) (fun _ => J9) (fun c9 => ?_)
  have h0 : kNext σ = 0 := hRes_0 hT.1.2 (by decide) c9
  refine lv_aload_n hx hb dL_law_690 rfl (lv_at hl 5 rfl) ?_
  refine k_iconst hx hb dL_law_691 ?_
  refine k_old hx hb hK hW (hfo h0) dL_law_692 ?_
  refine lv_iload hx hb dL_law_693 (lv_at hl 0 rfl) ?_
  refine lv_i2l hx hb dL_law_695 rfl ?_
  refine W.lcmp hx hb dL_law_696 ?_
  refine lv_if_eq (tgt := 702) hx hb dL_law_697 (by decide) (fun _ => J9) (fun c9 => absurd ((lg_cmp_eq _ _).mpr (by rw [hT.2.1 h0])) c9)
set_option maxHeartbeats 4000000 in
set_option maxRecDepth 100000 in
theorem law_pledge {p : Program} {l : Launch} {e : Env} {s : State} {m : MethodId} {below : List Frame} {meth : Method} {cd : Code} {b L : Nat} {xs : Nat → Int32} {Q : State → Prop} {G : va_G} {ad adM : Nat → Nat} {cy : Nat → ClassId} {ao : Nat} {A : Nat → Prop} (C : LwC p l s m cd b L xs G ad adM cy ao A) {σ M : Sg} {fo : Nat → Int64} {H : Heap} {locs : List Loc} {cells slots : Nat} {ls : Array Slot} {i : Int} (hJ : JJ σ M) (hW : LW G ad cy adM ao σ M fo H) (hS : va_S A s.heap H locs) (hl : lv_has ls 7 [(0, .ref b), (1, .ref (ad 0)), (2, .ref (adM 0)), (3, .ref ao), (4, .int (iI i))]) (hi0 : 0 ≤ i) (hi1 : i + 4 ≤ (L : Int)) (hc : cells + 9 ≤ room_1.cells) (hs : slots + 54 ≤ room_1.slots) (kk : ∀ (σ M : Sg) (fo : Nat → Int64) (H : Heap) (locs : List Loc) (ls : Array Slot), JJ σ M → LW G ad cy adM ao σ M fo H → va_S A s.heap H locs → lv_has ls 7 [(0, .ref b), (1, .ref (ad 0)), (2, .ref (adM 0)), (3, .ref ao), (4, .int (iI i))] → W p l e room_1 s m #[Value.ref b] below meth cd H locs (cells + 9) (slots + 54) Q (F0 m 1523 ls [])) : W p l e room_1 s m #[Value.ref b] below meth cd H locs cells slots Q (F0 m 705 ls []) := by
  obtain ⟨⟨hx, hb, hml, hown, hts⟩, ⟨hX9, hbl, hbA, hL9⟩, hL, hA, hK, hX, hN3, hfl⟩ := C
  obtain ⟨y0, hy0, e0⟩ := iI_of (xs (i + 1).toNat)
  obtain ⟨y1, hy1, e1⟩ := iI_of (xs (i + 2).toNat)
  refine lv_aload_n hx hb dL_law_705 rfl (lv_at hl 1 rfl) ?_
  refine lv_aload_n hx hb dL_law_706 rfl (lv_at hl 0 rfl) ?_
  refine lv_iload hx hb dL_law_707 (lv_at hl 4 rfl) ?_
  refine k_iconst hx hb dL_law_709 ?_
  refine k_iadd hx hb dL_law_710 ?_
  refine k_sld (x := i + 1) hx hb hX9 hbl hbA hS (by omega) (by omega) hL9 e0 dL_law_711 ?_
  refine lv_aload_n hx hb dL_law_712 rfl (lv_at hl 0 rfl) ?_
  refine lv_iload hx hb dL_law_713 (lv_at hl 4 rfl) ?_
  refine k_iconst hx hb dL_law_715 ?_
  refine k_iadd hx hb dL_law_716 ?_
  refine k_sld (x := i + 2) hx hb hX9 hbl hbA hS (by omega) (by omega) hL9 e1 dL_law_717 ?_
  refine lv_aload_n hx hb dL_law_718 rfl (lv_at hl 3 rfl) ?_
  refine k_lh (As := [.ref (ad 0), .int (iI y0), .int (iI y1), .ref ao]) (rest := []) ⟨hx, hb, hml, hown, hts⟩ (l_pledge l hfl G ad cy hL.1.1 ao hL.2.1 fo σ (jj_cBd hJ) y0 y1 (by first | assumption | decide) (by first | assumption | decide)) (vx_cwSW 4 hts gL_law_L_pledge rfl rfl rfl (by decide +kernel) ⟨Nat.le_of_ble_eq_true rfl, Nat.le_of_ble_eq_true rfl⟩) hA hL hK hX hN3 hW hS rfl hl.1 rfl (Nat.le_of_ble_eq_true rfl) dL_law_719 ⟨by omega, by omega⟩ (fun H locs fo hfo hW hS => ?_)
  refine lv_istore (lv' := [(5, .int (iI (hRes 3 (kPledge σ y0 y1)))), (0, .ref b), (1, .ref (ad 0)), (2, .ref (adM 0)), (3, .ref ao), (4, .int (iI i))]) hx hb dL_law_722 hl (by decide) rfl (fun ls hl => ?_)
  refine lv_aload_n hx hb dL_law_724 rfl (lv_at hl 3 rfl) ?_
  refine lv_aload_n hx hb dL_law_725 rfl (lv_at hl 1 rfl) ?_
  refine lv_iload hx hb dL_law_726 (lv_at hl 5 rfl) ?_
  refine k_iconst hx hb dL_law_728 ?_
  refine k_iadd hx hb dL_law_729 ?_
  refine k_sld (x := i + 1) hx hb hX9 hbl hbA hS (by omega) (by omega) hL9 e0 dL_law_730 ?_
  refine lv_aload_n hx hb dL_law_731 rfl (lv_at hl 1 rfl) ?_
  refine lv_iload hx hb dL_law_732 (lv_at hl 5 rfl) ?_
  refine k_iconst hx hb dL_law_734 ?_
  refine k_iadd hx hb dL_law_735 ?_
  refine k_sld (x := i + 2) hx hb hX9 hbl hbA hS (by omega) (by omega) hL9 e1 dL_law_736 ?_
  have hT := t_pledge hJ y0 y1 (by first | assumption | decide) (by first | assumption | decide)
  refine k_lm (As := [.int (iI y0), .int (iI y1)]) (rest := []) ⟨hx, hb, hml, hown, hts⟩ (m_pledge l G adM cy hL.1.2 M y0 y1 (by first | assumption | decide) (by first | assumption | decide) (jj_mBd hJ)) (cwV 2 hts gL_law_X3_pledge rfl rfl rfl (by decide +kernel) ⟨Nat.le_of_ble_eq_true rfl, Nat.le_of_ble_eq_true rfl⟩) hA hL hK hW hS rfl hl.1 rfl (Nat.le_of_ble_eq_true rfl) dL_law_737 ⟨by omega, by omega⟩ (fun H locs hW hS => ?_)
  refine lv_istore (lv' := [(6, .int (iI (rOf (qPledge M y0 y1) (y1 * gPr M y0 * 60 / 100)))), (5, .int (iI (hRes 3 (kPledge σ y0 y1)))), (0, .ref b), (1, .ref (ad 0)), (2, .ref (adM 0)), (3, .ref ao), (4, .int (iI i))]) hx hb dL_law_740 hl (by decide) rfl (fun ls hl => ?_)
  refine lv_aload_n hx hb dL_law_742 rfl (lv_at hl 4 rfl) ?_
  refine k_lm (As := []) (rest := []) ⟨hx, hb, hml, hown, hts⟩ (m_thrown l G adM cy hL.1.2 (tOf (qPledge M y0 y1) M (gPledge M y0 y1))) (cwV 0 hts gL_law_X3_thrown rfl rfl rfl (by decide +kernel) ⟨Nat.le_of_ble_eq_true rfl, Nat.le_of_ble_eq_true rfl⟩) hA hL hK hW hS rfl hl.1 rfl (Nat.le_of_ble_eq_true rfl) dL_law_743 ⟨by omega, by omega⟩ (fun H locs hW hS => ?_)
  refine lv_iload hx hb dL_law_746 (lv_at hl 1 rfl) ?_
  refine lv_icmp_eq (tgt := 753) hx hb dL_law_748 (by decide) (fun _ => ?_) (fun c9 => absurd (by rw [hT.1.1]) c9)
  have J9 : W p l e room_1 s m #[Value.ref b] below meth cd H locs (cells + 4) (slots + 6 * 4) Q (F0 m 770 ls []) := by
    refine lv_goto (tgt := 1523) hx hb dL_law_770 (by decide) ?_
    refine W.widen (k := cells + 9) (n := slots + 54) (by omega) (by omega) ?_
    exact kk _ _ _ _ _ _ hT.2.2 hW hS (lv_sub hl [2, 3, 4, 5, 6] rfl)
  refine lv_iload hx hb dL_law_753 (lv_at hl 1 rfl) ?_
  refine lv_if_ne (tgt := 770) hx hb dL_law_755 (by decide) (fun _ => J9) (fun c9 => ?_)
  have h0 : kPledge σ y0 y1 = 0 := hRes_0 hT.1.2 (by decide) c9
  refine lv_aload_n hx hb dL_law_758 rfl (lv_at hl 5 rfl) ?_
  refine k_iconst hx hb dL_law_759 ?_
  refine k_old hx hb hK hW (hfo h0) dL_law_760 ?_
  refine lv_iload hx hb dL_law_761 (lv_at hl 0 rfl) ?_
  refine lv_i2l hx hb dL_law_763 rfl ?_
  refine W.lcmp hx hb dL_law_764 ?_
  refine lv_if_eq (tgt := 770) hx hb dL_law_765 (by decide) (fun _ => J9) (fun c9 => absurd ((lg_cmp_eq _ _).mpr (by rw [hT.2.1 h0])) c9)
set_option maxHeartbeats 4000000 in
set_option maxRecDepth 100000 in
theorem law_sell {p : Program} {l : Launch} {e : Env} {s : State} {m : MethodId} {below : List Frame} {meth : Method} {cd : Code} {b L : Nat} {xs : Nat → Int32} {Q : State → Prop} {G : va_G} {ad adM : Nat → Nat} {cy : Nat → ClassId} {ao : Nat} {A : Nat → Prop} (C : LwC p l s m cd b L xs G ad adM cy ao A) {σ M : Sg} {fo : Nat → Int64} {H : Heap} {locs : List Loc} {cells slots : Nat} {ls : Array Slot} {i : Int} (hJ : JJ σ M) (hW : LW G ad cy adM ao σ M fo H) (hS : va_S A s.heap H locs) (hl : lv_has ls 7 [(0, .ref b), (1, .ref (ad 0)), (2, .ref (adM 0)), (3, .ref ao), (4, .int (iI i))]) (hi0 : 0 ≤ i) (hi1 : i + 4 ≤ (L : Int)) (hc : cells + 9 ≤ room_1.cells) (hs : slots + 54 ≤ room_1.slots) (kk : ∀ (σ M : Sg) (fo : Nat → Int64) (H : Heap) (locs : List Loc) (ls : Array Slot), JJ σ M → LW G ad cy adM ao σ M fo H → va_S A s.heap H locs → lv_has ls 7 [(0, .ref b), (1, .ref (ad 0)), (2, .ref (adM 0)), (3, .ref ao), (4, .int (iI i))] → W p l e room_1 s m #[Value.ref b] below meth cd H locs (cells + 9) (slots + 54) Q (F0 m 1523 ls [])) : W p l e room_1 s m #[Value.ref b] below meth cd H locs cells slots Q (F0 m 773 ls []) := by
  obtain ⟨⟨hx, hb, hml, hown, hts⟩, ⟨hX9, hbl, hbA, hL9⟩, hL, hA, hK, hX, hN3, hfl⟩ := C
  obtain ⟨y0, hy0, e0⟩ := iI_of (xs (i + 1).toNat)
  obtain ⟨y1, hy1, e1⟩ := iI_of (xs (i + 2).toNat)
  refine lv_aload_n hx hb dL_law_773 rfl (lv_at hl 1 rfl) ?_
  refine lv_aload_n hx hb dL_law_774 rfl (lv_at hl 0 rfl) ?_
  refine lv_iload hx hb dL_law_775 (lv_at hl 4 rfl) ?_
  refine k_iconst hx hb dL_law_777 ?_
  refine k_iadd hx hb dL_law_778 ?_
  refine k_sld (x := i + 1) hx hb hX9 hbl hbA hS (by omega) (by omega) hL9 e0 dL_law_779 ?_
  refine lv_aload_n hx hb dL_law_780 rfl (lv_at hl 0 rfl) ?_
  refine lv_iload hx hb dL_law_781 (lv_at hl 4 rfl) ?_
  refine k_iconst hx hb dL_law_783 ?_
  refine k_iadd hx hb dL_law_784 ?_
  refine k_sld (x := i + 2) hx hb hX9 hbl hbA hS (by omega) (by omega) hL9 e1 dL_law_785 ?_
  refine lv_aload_n hx hb dL_law_786 rfl (lv_at hl 3 rfl) ?_
  refine k_lh (As := [.ref (ad 0), .int (iI y0), .int (iI y1), .ref ao]) (rest := []) ⟨hx, hb, hml, hown, hts⟩ (l_sell l hfl G ad cy hL.1.1 ao hL.2.1 fo σ (jj_cBd hJ) y0 y1 (by first | assumption | decide) (by first | assumption | decide)) (vx_cwSW 4 hts gL_law_L_sell rfl rfl rfl (by decide +kernel) ⟨Nat.le_of_ble_eq_true rfl, Nat.le_of_ble_eq_true rfl⟩) hA hL hK hX hN3 hW hS rfl hl.1 rfl (Nat.le_of_ble_eq_true rfl) dL_law_787 ⟨by omega, by omega⟩ (fun H locs fo hfo hW hS => ?_)
  refine lv_istore (lv' := [(5, .int (iI (hRes 3 (kSell σ y0 y1)))), (0, .ref b), (1, .ref (ad 0)), (2, .ref (adM 0)), (3, .ref ao), (4, .int (iI i))]) hx hb dL_law_790 hl (by decide) rfl (fun ls hl => ?_)
  refine lv_aload_n hx hb dL_law_792 rfl (lv_at hl 3 rfl) ?_
  refine lv_aload_n hx hb dL_law_793 rfl (lv_at hl 1 rfl) ?_
  refine lv_iload hx hb dL_law_794 (lv_at hl 5 rfl) ?_
  refine k_iconst hx hb dL_law_796 ?_
  refine k_iadd hx hb dL_law_797 ?_
  refine k_sld (x := i + 1) hx hb hX9 hbl hbA hS (by omega) (by omega) hL9 e0 dL_law_798 ?_
  refine lv_aload_n hx hb dL_law_799 rfl (lv_at hl 1 rfl) ?_
  refine lv_iload hx hb dL_law_800 (lv_at hl 5 rfl) ?_
  refine k_iconst hx hb dL_law_802 ?_
  refine k_iadd hx hb dL_law_803 ?_
  refine k_sld (x := i + 2) hx hb hX9 hbl hbA hS (by omega) (by omega) hL9 e1 dL_law_804 ?_
  have hT := t_sell hJ y0 y1 (by first | assumption | decide) (by first | assumption | decide)
  refine k_lm (As := [.int (iI y0), .int (iI y1)]) (rest := []) ⟨hx, hb, hml, hown, hts⟩ (m_sell l G adM cy hL.1.2 M y0 y1 (by first | assumption | decide) (by first | assumption | decide) (jj_mBd hJ)) (cwV 2 hts gL_law_X3_sell rfl rfl rfl (by decide +kernel) ⟨Nat.le_of_ble_eq_true rfl, Nat.le_of_ble_eq_true rfl⟩) hA hL hK hW hS rfl hl.1 rfl (Nat.le_of_ble_eq_true rfl) dL_law_805 ⟨by omega, by omega⟩ (fun H locs hW hS => ?_)
  refine lv_istore (lv' := [(6, .int (iI (rOf (qSell M y0 y1) (y1 * gPr M y0)))), (5, .int (iI (hRes 3 (kSell σ y0 y1)))), (0, .ref b), (1, .ref (ad 0)), (2, .ref (adM 0)), (3, .ref ao), (4, .int (iI i))]) hx hb dL_law_808 hl (by decide) rfl (fun ls hl => ?_)
  refine lv_aload_n hx hb dL_law_810 rfl (lv_at hl 4 rfl) ?_
  refine k_lm (As := []) (rest := []) ⟨hx, hb, hml, hown, hts⟩ (m_thrown l G adM cy hL.1.2 (tOf (qSell M y0 y1) M (gSell M y0 y1))) (cwV 0 hts gL_law_X3_thrown rfl rfl rfl (by decide +kernel) ⟨Nat.le_of_ble_eq_true rfl, Nat.le_of_ble_eq_true rfl⟩) hA hL hK hW hS rfl hl.1 rfl (Nat.le_of_ble_eq_true rfl) dL_law_811 ⟨by omega, by omega⟩ (fun H locs hW hS => ?_)
  refine lv_iload hx hb dL_law_814 (lv_at hl 1 rfl) ?_
  refine lv_icmp_eq (tgt := 821) hx hb dL_law_816 (by decide) (fun _ => ?_) (fun c9 => absurd (by rw [hT.1.1]) c9)
  have J9 : W p l e room_1 s m #[Value.ref b] below meth cd H locs (cells + 4) (slots + 6 * 4) Q (F0 m 838 ls []) := by
    refine lv_goto (tgt := 1523) hx hb dL_law_838 (by decide) ?_
    refine W.widen (k := cells + 9) (n := slots + 54) (by omega) (by omega) ?_
    exact kk _ _ _ _ _ _ hT.2.2 hW hS (lv_sub hl [2, 3, 4, 5, 6] rfl)
  refine lv_iload hx hb dL_law_821 (lv_at hl 1 rfl) ?_
  refine lv_if_ne (tgt := 838) hx hb dL_law_823 (by decide) (fun _ => J9) (fun c9 => ?_)
  have h0 : kSell σ y0 y1 = 0 := hRes_0 hT.1.2 (by decide) c9
  refine lv_aload_n hx hb dL_law_826 rfl (lv_at hl 5 rfl) ?_
  refine k_iconst hx hb dL_law_827 ?_
  refine k_old hx hb hK hW (hfo h0) dL_law_828 ?_
  refine lv_iload hx hb dL_law_829 (lv_at hl 0 rfl) ?_
  refine lv_i2l hx hb dL_law_831 rfl ?_
  refine W.lcmp hx hb dL_law_832 ?_
  refine lv_if_eq (tgt := 838) hx hb dL_law_833 (by decide) (fun _ => J9) (fun c9 => absurd ((lg_cmp_eq _ _).mpr (by rw [hT.2.1 h0])) c9)
set_option maxHeartbeats 4000000 in
set_option maxRecDepth 100000 in
theorem law_repay {p : Program} {l : Launch} {e : Env} {s : State} {m : MethodId} {below : List Frame} {meth : Method} {cd : Code} {b L : Nat} {xs : Nat → Int32} {Q : State → Prop} {G : va_G} {ad adM : Nat → Nat} {cy : Nat → ClassId} {ao : Nat} {A : Nat → Prop} (C : LwC p l s m cd b L xs G ad adM cy ao A) {σ M : Sg} {fo : Nat → Int64} {H : Heap} {locs : List Loc} {cells slots : Nat} {ls : Array Slot} {i : Int} (hJ : JJ σ M) (hW : LW G ad cy adM ao σ M fo H) (hS : va_S A s.heap H locs) (hl : lv_has ls 7 [(0, .ref b), (1, .ref (ad 0)), (2, .ref (adM 0)), (3, .ref ao), (4, .int (iI i))]) (hi0 : 0 ≤ i) (hi1 : i + 4 ≤ (L : Int)) (hc : cells + 9 ≤ room_1.cells) (hs : slots + 54 ≤ room_1.slots) (kk : ∀ (σ M : Sg) (fo : Nat → Int64) (H : Heap) (locs : List Loc) (ls : Array Slot), JJ σ M → LW G ad cy adM ao σ M fo H → va_S A s.heap H locs → lv_has ls 7 [(0, .ref b), (1, .ref (ad 0)), (2, .ref (adM 0)), (3, .ref ao), (4, .int (iI i))] → W p l e room_1 s m #[Value.ref b] below meth cd H locs (cells + 9) (slots + 54) Q (F0 m 1523 ls [])) : W p l e room_1 s m #[Value.ref b] below meth cd H locs cells slots Q (F0 m 841 ls []) := by
  obtain ⟨⟨hx, hb, hml, hown, hts⟩, ⟨hX9, hbl, hbA, hL9⟩, hL, hA, hK, hX, hN3, hfl⟩ := C
  obtain ⟨y0, hy0, e0⟩ := iI_of (xs (i + 1).toNat)
  obtain ⟨y1, hy1, e1⟩ := iI_of (xs (i + 2).toNat)
  refine lv_aload_n hx hb dL_law_841 rfl (lv_at hl 1 rfl) ?_
  refine lv_aload_n hx hb dL_law_842 rfl (lv_at hl 0 rfl) ?_
  refine lv_iload hx hb dL_law_843 (lv_at hl 4 rfl) ?_
  refine k_iconst hx hb dL_law_845 ?_
  refine k_iadd hx hb dL_law_846 ?_
  refine k_sld (x := i + 1) hx hb hX9 hbl hbA hS (by omega) (by omega) hL9 e0 dL_law_847 ?_
  refine lv_aload_n hx hb dL_law_848 rfl (lv_at hl 0 rfl) ?_
  refine lv_iload hx hb dL_law_849 (lv_at hl 4 rfl) ?_
  refine k_iconst hx hb dL_law_851 ?_
  refine k_iadd hx hb dL_law_852 ?_
  refine k_sld (x := i + 2) hx hb hX9 hbl hbA hS (by omega) (by omega) hL9 e1 dL_law_853 ?_
  refine lv_aload_n hx hb dL_law_854 rfl (lv_at hl 3 rfl) ?_
  refine k_lh (As := [.ref (ad 0), .int (iI y0), .int (iI y1), .ref ao]) (rest := []) ⟨hx, hb, hml, hown, hts⟩ (l_repay l hfl G ad cy hL.1.1 ao hL.2.1 fo σ (jj_cBd hJ) y0 y1 (by first | assumption | decide) (by first | assumption | decide)) (vx_cwSW 4 hts gL_law_L_repay rfl rfl rfl (by decide +kernel) ⟨Nat.le_of_ble_eq_true rfl, Nat.le_of_ble_eq_true rfl⟩) hA hL hK hX hN3 hW hS rfl hl.1 rfl (Nat.le_of_ble_eq_true rfl) dL_law_855 ⟨by omega, by omega⟩ (fun H locs fo hfo hW hS => ?_)
  refine lv_istore (lv' := [(5, .int (iI (hRes 3 (kRepay σ y0 y1)))), (0, .ref b), (1, .ref (ad 0)), (2, .ref (adM 0)), (3, .ref ao), (4, .int (iI i))]) hx hb dL_law_858 hl (by decide) rfl (fun ls hl => ?_)
  refine lv_aload_n hx hb dL_law_860 rfl (lv_at hl 3 rfl) ?_
  refine lv_aload_n hx hb dL_law_861 rfl (lv_at hl 1 rfl) ?_
  refine lv_iload hx hb dL_law_862 (lv_at hl 5 rfl) ?_
  refine k_iconst hx hb dL_law_864 ?_
  refine k_iadd hx hb dL_law_865 ?_
  refine k_sld (x := i + 1) hx hb hX9 hbl hbA hS (by omega) (by omega) hL9 e0 dL_law_866 ?_
  refine lv_aload_n hx hb dL_law_867 rfl (lv_at hl 1 rfl) ?_
  refine lv_iload hx hb dL_law_868 (lv_at hl 5 rfl) ?_
  refine k_iconst hx hb dL_law_870 ?_
  refine k_iadd hx hb dL_law_871 ?_
  refine k_sld (x := i + 2) hx hb hX9 hbl hbA hS (by omega) (by omega) hL9 e1 dL_law_872 ?_
  have hT := t_repay hJ y0 y1 (by first | assumption | decide) (by first | assumption | decide)
  refine k_lm (As := [.int (iI y0), .int (iI y1)]) (rest := []) ⟨hx, hb, hml, hown, hts⟩ (m_repay l G adM cy hL.1.2 M y0 y1 (by first | assumption | decide) (by first | assumption | decide) (jj_mBd hJ)) (cwV 2 hts gL_law_X3_repay rfl rfl rfl (by decide +kernel) ⟨Nat.le_of_ble_eq_true rfl, Nat.le_of_ble_eq_true rfl⟩) hA hL hK hW hS rfl hl.1 rfl (Nat.le_of_ble_eq_true rfl) dL_law_873 ⟨by omega, by omega⟩ (fun H locs hW hS => ?_)
  refine lv_istore (lv' := [(6, .int (iI (rOf (qRepay M y0 y1) (gLower (up (up M 0 0 0) 5 y0.toNat (M 5 y0.toNat - y1)) y0 y1 0 6 y0.toNat)))), (5, .int (iI (hRes 3 (kRepay σ y0 y1)))), (0, .ref b), (1, .ref (ad 0)), (2, .ref (adM 0)), (3, .ref ao), (4, .int (iI i))]) hx hb dL_law_876 hl (by decide) rfl (fun ls hl => ?_)
  refine lv_aload_n hx hb dL_law_878 rfl (lv_at hl 4 rfl) ?_
  refine k_lm (As := []) (rest := []) ⟨hx, hb, hml, hown, hts⟩ (m_thrown l G adM cy hL.1.2 (tOf (qRepay M y0 y1) M (gLower (up (up M 0 0 0) 5 y0.toNat (M 5 y0.toNat - y1)) y0 y1 0))) (cwV 0 hts gL_law_X3_thrown rfl rfl rfl (by decide +kernel) ⟨Nat.le_of_ble_eq_true rfl, Nat.le_of_ble_eq_true rfl⟩) hA hL hK hW hS rfl hl.1 rfl (Nat.le_of_ble_eq_true rfl) dL_law_879 ⟨by omega, by omega⟩ (fun H locs hW hS => ?_)
  refine lv_iload hx hb dL_law_882 (lv_at hl 1 rfl) ?_
  refine lv_icmp_eq (tgt := 889) hx hb dL_law_884 (by decide) (fun _ => ?_) (fun c9 => absurd (by rw [hT.1.1]) c9)
  have J9 : W p l e room_1 s m #[Value.ref b] below meth cd H locs (cells + 3) (slots + 6 * 3) Q (F0 m 906 ls []) := by
    refine lv_goto (tgt := 1523) hx hb dL_law_906 (by decide) ?_
    refine W.widen (k := cells + 9) (n := slots + 54) (by omega) (by omega) ?_
    exact kk _ _ _ _ _ _ hT.2.2 hW hS (lv_sub hl [2, 3, 4, 5, 6] rfl)
  refine lv_iload hx hb dL_law_889 (lv_at hl 1 rfl) ?_
  refine lv_if_ne (tgt := 906) hx hb dL_law_891 (by decide) (fun _ => J9) (fun c9 => ?_)
  have h0 : kRepay σ y0 y1 = 0 := hRes_0 hT.1.2 (by decide) c9
  refine lv_aload_n hx hb dL_law_894 rfl (lv_at hl 5 rfl) ?_
  refine k_iconst hx hb dL_law_895 ?_
  refine k_old hx hb hK hW (hfo h0) dL_law_896 ?_
  refine lv_iload hx hb dL_law_897 (lv_at hl 0 rfl) ?_
  refine lv_i2l hx hb dL_law_899 rfl ?_
  refine W.lcmp hx hb dL_law_900 ?_
  refine lv_if_eq (tgt := 906) hx hb dL_law_901 (by decide) (fun _ => J9) (fun c9 => absurd ((lg_cmp_eq _ _).mpr (by rw [hT.2.1 h0])) c9)
set_option maxHeartbeats 4000000 in
set_option maxRecDepth 100000 in
theorem law_close {p : Program} {l : Launch} {e : Env} {s : State} {m : MethodId} {below : List Frame} {meth : Method} {cd : Code} {b L : Nat} {xs : Nat → Int32} {Q : State → Prop} {G : va_G} {ad adM : Nat → Nat} {cy : Nat → ClassId} {ao : Nat} {A : Nat → Prop} (C : LwC p l s m cd b L xs G ad adM cy ao A) {σ M : Sg} {fo : Nat → Int64} {H : Heap} {locs : List Loc} {cells slots : Nat} {ls : Array Slot} {i : Int} (hJ : JJ σ M) (hW : LW G ad cy adM ao σ M fo H) (hS : va_S A s.heap H locs) (hl : lv_has ls 7 [(0, .ref b), (1, .ref (ad 0)), (2, .ref (adM 0)), (3, .ref ao), (4, .int (iI i))]) (hi0 : 0 ≤ i) (hi1 : i + 4 ≤ (L : Int)) (hc : cells + 9 ≤ room_1.cells) (hs : slots + 54 ≤ room_1.slots) (kk : ∀ (σ M : Sg) (fo : Nat → Int64) (H : Heap) (locs : List Loc) (ls : Array Slot), JJ σ M → LW G ad cy adM ao σ M fo H → va_S A s.heap H locs → lv_has ls 7 [(0, .ref b), (1, .ref (ad 0)), (2, .ref (adM 0)), (3, .ref ao), (4, .int (iI i))] → W p l e room_1 s m #[Value.ref b] below meth cd H locs (cells + 9) (slots + 54) Q (F0 m 1523 ls [])) : W p l e room_1 s m #[Value.ref b] below meth cd H locs cells slots Q (F0 m 909 ls []) := by
  obtain ⟨⟨hx, hb, hml, hown, hts⟩, ⟨hX9, hbl, hbA, hL9⟩, hL, hA, hK, hX, hN3, hfl⟩ := C
  refine lv_aload_n hx hb dL_law_909 rfl (lv_at hl 1 rfl) ?_
  refine lv_aload_n hx hb dL_law_910 rfl (lv_at hl 3 rfl) ?_
  refine k_lh (As := [.ref (ad 0), .ref ao]) (rest := []) ⟨hx, hb, hml, hown, hts⟩ (l_close l hfl G ad cy hL.1.1 ao hL.2.1 fo σ (jj_cBd hJ)  ) (vx_cwSW 2 hts gL_law_L_close rfl rfl rfl (by decide +kernel) ⟨Nat.le_of_ble_eq_true rfl, Nat.le_of_ble_eq_true rfl⟩) hA hL hK hX hN3 hW hS rfl hl.1 rfl (Nat.le_of_ble_eq_true rfl) dL_law_911 ⟨by omega, by omega⟩ (fun H locs fo hfo hW hS => ?_)
  refine lv_istore (lv' := [(5, .int (iI (hRes 1 (kClose σ)))), (0, .ref b), (1, .ref (ad 0)), (2, .ref (adM 0)), (3, .ref ao), (4, .int (iI i))]) hx hb dL_law_914 hl (by decide) rfl (fun ls hl => ?_)
  refine lv_aload_n hx hb dL_law_916 rfl (lv_at hl 3 rfl) ?_
  have hT := t_close hJ  
  refine k_lm (As := []) (rest := []) ⟨hx, hb, hml, hown, hts⟩ (m_close l G adM cy hL.1.2 M   (jj_mBd hJ) (jj_close1 hJ) (jj_close2 hJ) (jj_close3 hJ)) (cwV 0 hts gL_law_X3_close rfl rfl rfl (by decide +kernel) ⟨Nat.le_of_ble_eq_true rfl, Nat.le_of_ble_eq_true rfl⟩) hA hL hK hW hS rfl hl.1 rfl (Nat.le_of_ble_eq_true rfl) dL_law_917 ⟨by omega, by omega⟩ (fun H locs hW hS => ?_)
  refine lv_istore (lv' := [(6, .int (iI (rOf (qClose M) (M 0 1 + 1)))), (5, .int (iI (hRes 1 (kClose σ)))), (0, .ref b), (1, .ref (ad 0)), (2, .ref (adM 0)), (3, .ref ao), (4, .int (iI i))]) hx hb dL_law_920 hl (by decide) rfl (fun ls hl => ?_)
  refine lv_aload_n hx hb dL_law_922 rfl (lv_at hl 4 rfl) ?_
  refine k_lm (As := []) (rest := []) ⟨hx, hb, hml, hown, hts⟩ (m_thrown l G adM cy hL.1.2 (tOf (qClose M) M (gClose M))) (cwV 0 hts gL_law_X3_thrown rfl rfl rfl (by decide +kernel) ⟨Nat.le_of_ble_eq_true rfl, Nat.le_of_ble_eq_true rfl⟩) hA hL hK hW hS rfl hl.1 rfl (Nat.le_of_ble_eq_true rfl) dL_law_923 ⟨by omega, by omega⟩ (fun H locs hW hS => ?_)
  refine lv_iload hx hb dL_law_926 (lv_at hl 1 rfl) ?_
  refine lv_icmp_eq (tgt := 933) hx hb dL_law_928 (by decide) (fun _ => ?_) (fun c9 => absurd (by rw [hT.1.1]) c9)
  have J9 : W p l e room_1 s m #[Value.ref b] below meth cd H locs (cells + 1) (slots + 6 * 1) Q (F0 m 950 ls []) := by
    refine lv_goto (tgt := 1523) hx hb dL_law_950 (by decide) ?_
    refine W.widen (k := cells + 9) (n := slots + 54) (by omega) (by omega) ?_
    exact kk _ _ _ _ _ _ hT.2.2 hW hS (lv_sub hl [2, 3, 4, 5, 6] rfl)
  refine lv_iload hx hb dL_law_933 (lv_at hl 1 rfl) ?_
  refine lv_if_ne (tgt := 950) hx hb dL_law_935 (by decide) (fun _ => J9) (fun c9 => ?_)
  have h0 : kClose σ = 0 := hRes_0 hT.1.2 (by decide) c9
  refine lv_aload_n hx hb dL_law_938 rfl (lv_at hl 5 rfl) ?_
  refine k_iconst hx hb dL_law_939 ?_
  refine k_old hx hb hK hW (hfo h0) dL_law_940 ?_
  refine lv_iload hx hb dL_law_941 (lv_at hl 0 rfl) ?_
  refine lv_i2l hx hb dL_law_943 rfl ?_
  refine W.lcmp hx hb dL_law_944 ?_
  refine lv_if_eq (tgt := 950) hx hb dL_law_945 (by decide) (fun _ => J9) (fun c9 => absurd ((lg_cmp_eq _ _).mpr (by rw [hT.2.1 h0])) c9)
set_option maxHeartbeats 4000000 in
set_option maxRecDepth 100000 in
theorem law_season {p : Program} {l : Launch} {e : Env} {s : State} {m : MethodId} {below : List Frame} {meth : Method} {cd : Code} {b L : Nat} {xs : Nat → Int32} {Q : State → Prop} {G : va_G} {ad adM : Nat → Nat} {cy : Nat → ClassId} {ao : Nat} {A : Nat → Prop} (C : LwC p l s m cd b L xs G ad adM cy ao A) {σ M : Sg} {fo : Nat → Int64} {H : Heap} {locs : List Loc} {cells slots : Nat} {ls : Array Slot} {i : Int} (hJ : JJ σ M) (hW : LW G ad cy adM ao σ M fo H) (hS : va_S A s.heap H locs) (hl : lv_has ls 7 [(0, .ref b), (1, .ref (ad 0)), (2, .ref (adM 0)), (3, .ref ao), (4, .int (iI i))]) (hi0 : 0 ≤ i) (hi1 : i + 4 ≤ (L : Int)) (hc : cells + 9 ≤ room_1.cells) (hs : slots + 54 ≤ room_1.slots) (kk : ∀ (σ M : Sg) (fo : Nat → Int64) (H : Heap) (locs : List Loc) (ls : Array Slot), JJ σ M → LW G ad cy adM ao σ M fo H → va_S A s.heap H locs → lv_has ls 7 [(0, .ref b), (1, .ref (ad 0)), (2, .ref (adM 0)), (3, .ref ao), (4, .int (iI i))] → W p l e room_1 s m #[Value.ref b] below meth cd H locs (cells + 9) (slots + 54) Q (F0 m 1523 ls [])) : W p l e room_1 s m #[Value.ref b] below meth cd H locs cells slots Q (F0 m 953 ls []) := by
  obtain ⟨⟨hx, hb, hml, hown, hts⟩, ⟨hX9, hbl, hbA, hL9⟩, hL, hA, hK, hX, hN3, hfl⟩ := C
  refine lv_aload_n hx hb dL_law_953 rfl (lv_at hl 1 rfl) ?_
  refine k_lc (As := []) (rest := []) ⟨hx, hb, hml, hown, hts⟩ (h_season l G ad cy hL.1.1 σ) (cwV 0 hts gL_law_X2_season rfl rfl rfl (by decide +kernel) ⟨Nat.le_of_ble_eq_true rfl, Nat.le_of_ble_eq_true rfl⟩) hA hL hK hW hS rfl hl.1 rfl (Nat.le_of_ble_eq_true rfl) dL_law_954 ⟨by omega, by omega⟩ (fun H locs hW hS => ?_)
  refine lv_aload_n hx hb dL_law_957 rfl (lv_at hl 2 rfl) ?_
  have hG := (jj_cBd hJ).1
  have hE := jj_season hJ
  refine k_lm (As := []) (rest := [.int (iI (σ 0 3))]) ⟨hx, hb, hml, hown, hts⟩ (m_season l G adM cy hL.1.2 M (by rw [hE]; have := hG.2.1; omega)) (cwV 0 hts gL_law_X3_season rfl rfl rfl (by decide +kernel) ⟨Nat.le_of_ble_eq_true rfl, Nat.le_of_ble_eq_true rfl⟩) hA hL hK hW hS rfl hl.1 rfl (Nat.le_of_ble_eq_true rfl) dL_law_958 ⟨by omega, by omega⟩ (fun H locs hW hS => ?_)
  refine lv_icmp_eq (tgt := 1523) hx hb dL_law_961 (by decide) (fun _ => ?_) (fun c9 => absurd (by rw [hE]) c9)
  refine W.widen (k := cells + 9) (n := slots + 54) (by omega) (by omega) ?_
  exact kk _ _ _ _ _ _ (jj_rf hJ 0) hW hS hl
set_option maxHeartbeats 4000000 in
set_option maxRecDepth 100000 in
theorem law_stage {p : Program} {l : Launch} {e : Env} {s : State} {m : MethodId} {below : List Frame} {meth : Method} {cd : Code} {b L : Nat} {xs : Nat → Int32} {Q : State → Prop} {G : va_G} {ad adM : Nat → Nat} {cy : Nat → ClassId} {ao : Nat} {A : Nat → Prop} (C : LwC p l s m cd b L xs G ad adM cy ao A) {σ M : Sg} {fo : Nat → Int64} {H : Heap} {locs : List Loc} {cells slots : Nat} {ls : Array Slot} {i : Int} (hJ : JJ σ M) (hW : LW G ad cy adM ao σ M fo H) (hS : va_S A s.heap H locs) (hl : lv_has ls 7 [(0, .ref b), (1, .ref (ad 0)), (2, .ref (adM 0)), (3, .ref ao), (4, .int (iI i))]) (hi0 : 0 ≤ i) (hi1 : i + 4 ≤ (L : Int)) (hc : cells + 9 ≤ room_1.cells) (hs : slots + 54 ≤ room_1.slots) (kk : ∀ (σ M : Sg) (fo : Nat → Int64) (H : Heap) (locs : List Loc) (ls : Array Slot), JJ σ M → LW G ad cy adM ao σ M fo H → va_S A s.heap H locs → lv_has ls 7 [(0, .ref b), (1, .ref (ad 0)), (2, .ref (adM 0)), (3, .ref ao), (4, .int (iI i))] → W p l e room_1 s m #[Value.ref b] below meth cd H locs (cells + 9) (slots + 54) Q (F0 m 1523 ls [])) : W p l e room_1 s m #[Value.ref b] below meth cd H locs cells slots Q (F0 m 966 ls []) := by
  obtain ⟨⟨hx, hb, hml, hown, hts⟩, ⟨hX9, hbl, hbA, hL9⟩, hL, hA, hK, hX, hN3, hfl⟩ := C
  refine lv_aload_n hx hb dL_law_966 rfl (lv_at hl 1 rfl) ?_
  refine k_lc (As := []) (rest := []) ⟨hx, hb, hml, hown, hts⟩ (h_stage l G ad cy hL.1.1 σ) (cwV 0 hts gL_law_X2_stage rfl rfl rfl (by decide +kernel) ⟨Nat.le_of_ble_eq_true rfl, Nat.le_of_ble_eq_true rfl⟩) hA hL hK hW hS rfl hl.1 rfl (Nat.le_of_ble_eq_true rfl) dL_law_967 ⟨by omega, by omega⟩ (fun H locs hW hS => ?_)
  refine lv_aload_n hx hb dL_law_970 rfl (lv_at hl 2 rfl) ?_
  have hG := (jj_cBd hJ).1
  have hE := jj_stage hJ
  refine k_lm (As := []) (rest := [.int (iI (σ 0 4))]) ⟨hx, hb, hml, hown, hts⟩ (m_stage l G adM cy hL.1.2 M (by rw [hE]; have := hG.2.2; omega)) (cwV 0 hts gL_law_X3_stage rfl rfl rfl (by decide +kernel) ⟨Nat.le_of_ble_eq_true rfl, Nat.le_of_ble_eq_true rfl⟩) hA hL hK hW hS rfl hl.1 rfl (Nat.le_of_ble_eq_true rfl) dL_law_971 ⟨by omega, by omega⟩ (fun H locs hW hS => ?_)
  refine lv_icmp_eq (tgt := 1523) hx hb dL_law_974 (by decide) (fun _ => ?_) (fun c9 => absurd (by rw [hE]) c9)
  refine W.widen (k := cells + 9) (n := slots + 54) (by omega) (by omega) ?_
  exact kk _ _ _ _ _ _ (jj_rf hJ 0) hW hS hl
set_option maxHeartbeats 4000000 in
set_option maxRecDepth 100000 in
theorem law_limit {p : Program} {l : Launch} {e : Env} {s : State} {m : MethodId} {below : List Frame} {meth : Method} {cd : Code} {b L : Nat} {xs : Nat → Int32} {Q : State → Prop} {G : va_G} {ad adM : Nat → Nat} {cy : Nat → ClassId} {ao : Nat} {A : Nat → Prop} (C : LwC p l s m cd b L xs G ad adM cy ao A) {σ M : Sg} {fo : Nat → Int64} {H : Heap} {locs : List Loc} {cells slots : Nat} {ls : Array Slot} {i : Int} (hJ : JJ σ M) (hW : LW G ad cy adM ao σ M fo H) (hS : va_S A s.heap H locs) (hl : lv_has ls 7 [(0, .ref b), (1, .ref (ad 0)), (2, .ref (adM 0)), (3, .ref ao), (4, .int (iI i))]) (hi0 : 0 ≤ i) (hi1 : i + 4 ≤ (L : Int)) (hc : cells + 9 ≤ room_1.cells) (hs : slots + 54 ≤ room_1.slots) (kk : ∀ (σ M : Sg) (fo : Nat → Int64) (H : Heap) (locs : List Loc) (ls : Array Slot), JJ σ M → LW G ad cy adM ao σ M fo H → va_S A s.heap H locs → lv_has ls 7 [(0, .ref b), (1, .ref (ad 0)), (2, .ref (adM 0)), (3, .ref ao), (4, .int (iI i))] → W p l e room_1 s m #[Value.ref b] below meth cd H locs (cells + 9) (slots + 54) Q (F0 m 1523 ls [])) : W p l e room_1 s m #[Value.ref b] below meth cd H locs cells slots Q (F0 m 979 ls []) := by
  obtain ⟨⟨hx, hb, hml, hown, hts⟩, ⟨hX9, hbl, hbA, hL9⟩, hL, hA, hK, hX, hN3, hfl⟩ := C
  obtain ⟨y0, hy0, e0⟩ := iI_of (xs (i + 1).toNat)
  refine lv_aload_n hx hb dL_law_979 rfl (lv_at hl 1 rfl) ?_
  refine lv_aload_n hx hb dL_law_980 rfl (lv_at hl 0 rfl) ?_
  refine lv_iload hx hb dL_law_981 (lv_at hl 4 rfl) ?_
  refine k_iconst hx hb dL_law_983 ?_
  refine k_iadd hx hb dL_law_984 ?_
  refine k_sld (x := i + 1) hx hb hX9 hbl hbA hS (by omega) (by omega) hL9 e0 dL_law_985 ?_
  refine lv_aload_n hx hb dL_law_986 rfl (lv_at hl 3 rfl) ?_
  refine k_lh (As := [.ref (ad 0), .int (iI y0), .ref ao]) (rest := []) ⟨hx, hb, hml, hown, hts⟩ (l_limit l hfl G ad cy hL.1.1 ao hL.2.1 fo σ (jj_cBd hJ) y0 (by first | assumption | decide)) (vx_cwSW 3 hts gL_law_L_limit rfl rfl rfl (by decide +kernel) ⟨Nat.le_of_ble_eq_true rfl, Nat.le_of_ble_eq_true rfl⟩) hA hL hK hX hN3 hW hS rfl hl.1 rfl (Nat.le_of_ble_eq_true rfl) dL_law_987 ⟨by omega, by omega⟩ (fun H locs fo hfo hW hS => ?_)
  refine lv_istore (lv' := [(5, .int (iI (hRes 3 (cFarm σ y0)))), (0, .ref b), (1, .ref (ad 0)), (2, .ref (adM 0)), (3, .ref ao), (4, .int (iI i))]) hx hb dL_law_990 hl (by decide) rfl (fun ls hl => ?_)
  refine lv_aload_n hx hb dL_law_992 rfl (lv_at hl 3 rfl) ?_
  refine lv_aload_n hx hb dL_law_993 rfl (lv_at hl 1 rfl) ?_
  refine lv_iload hx hb dL_law_994 (lv_at hl 5 rfl) ?_
  refine k_iconst hx hb dL_law_996 ?_
  refine k_iadd hx hb dL_law_997 ?_
  refine k_sld (x := i + 1) hx hb hX9 hbl hbA hS (by omega) (by omega) hL9 e0 dL_law_998 ?_
  have hT := t_limit hJ y0 (by first | assumption | decide)
  refine k_lm (As := [.int (iI y0)]) (rest := []) ⟨hx, hb, hml, hown, hts⟩ (m_limit l G adM cy hL.1.2 M y0 (by first | assumption | decide) (jj_mBd hJ)) (cwV 1 hts gL_law_X3_limit rfl rfl rfl (by decide +kernel) ⟨Nat.le_of_ble_eq_true rfl, Nat.le_of_ble_eq_true rfl⟩) hA hL hK hW hS rfl hl.1 rfl (Nat.le_of_ble_eq_true rfl) dL_law_999 ⟨by omega, by omega⟩ (fun H locs hW hS => ?_)
  refine lv_istore (lv' := [(6, .int (iI (rOf (qFarm M y0) (gLimit M y0)))), (5, .int (iI (hRes 3 (cFarm σ y0)))), (0, .ref b), (1, .ref (ad 0)), (2, .ref (adM 0)), (3, .ref ao), (4, .int (iI i))]) hx hb dL_law_1002 hl (by decide) rfl (fun ls hl => ?_)
  refine lv_aload_n hx hb dL_law_1004 rfl (lv_at hl 4 rfl) ?_
  refine k_lm (As := []) (rest := []) ⟨hx, hb, hml, hown, hts⟩ (m_thrown l G adM cy hL.1.2 (up M 0 0 (qFarm M y0))) (cwV 0 hts gL_law_X3_thrown rfl rfl rfl (by decide +kernel) ⟨Nat.le_of_ble_eq_true rfl, Nat.le_of_ble_eq_true rfl⟩) hA hL hK hW hS rfl hl.1 rfl (Nat.le_of_ble_eq_true rfl) dL_law_1005 ⟨by omega, by omega⟩ (fun H locs hW hS => ?_)
  refine lv_iload hx hb dL_law_1008 (lv_at hl 1 rfl) ?_
  refine lv_icmp_eq (tgt := 1015) hx hb dL_law_1010 (by decide) (fun _ => ?_) (fun c9 => absurd (by rw [hT.1.1]) c9)
  have J9 : W p l e room_1 s m #[Value.ref b] below meth cd H locs (cells + 2) (slots + 6 * 2) Q (F0 m 1032 ls []) := by
    refine lv_goto (tgt := 1523) hx hb dL_law_1032 (by decide) ?_
    refine W.widen (k := cells + 9) (n := slots + 54) (by omega) (by omega) ?_
    exact kk _ _ _ _ _ _ hT.2.2 hW hS (lv_sub hl [2, 3, 4, 5, 6] rfl)
  refine lv_iload hx hb dL_law_1015 (lv_at hl 1 rfl) ?_
  refine lv_if_ne (tgt := 1032) hx hb dL_law_1017 (by decide) (fun _ => J9) (fun c9 => ?_)
  have h0 : cFarm σ y0 = 0 := hRes_0 hT.1.2 (by decide) c9
  refine lv_aload_n hx hb dL_law_1020 rfl (lv_at hl 5 rfl) ?_
  refine k_iconst hx hb dL_law_1021 ?_
  refine k_old hx hb hK hW (hfo h0) dL_law_1022 ?_
  refine lv_iload hx hb dL_law_1023 (lv_at hl 0 rfl) ?_
  refine lv_i2l hx hb dL_law_1025 rfl ?_
  refine W.lcmp hx hb dL_law_1026 ?_
  refine lv_if_eq (tgt := 1032) hx hb dL_law_1027 (by decide) (fun _ => J9) (fun c9 => absurd ((lg_cmp_eq _ _).mpr (by rw [hT.2.1 h0])) c9)
set_option maxHeartbeats 4000000 in
set_option maxRecDepth 100000 in
theorem law_debt {p : Program} {l : Launch} {e : Env} {s : State} {m : MethodId} {below : List Frame} {meth : Method} {cd : Code} {b L : Nat} {xs : Nat → Int32} {Q : State → Prop} {G : va_G} {ad adM : Nat → Nat} {cy : Nat → ClassId} {ao : Nat} {A : Nat → Prop} (C : LwC p l s m cd b L xs G ad adM cy ao A) {σ M : Sg} {fo : Nat → Int64} {H : Heap} {locs : List Loc} {cells slots : Nat} {ls : Array Slot} {i : Int} (hJ : JJ σ M) (hW : LW G ad cy adM ao σ M fo H) (hS : va_S A s.heap H locs) (hl : lv_has ls 7 [(0, .ref b), (1, .ref (ad 0)), (2, .ref (adM 0)), (3, .ref ao), (4, .int (iI i))]) (hi0 : 0 ≤ i) (hi1 : i + 4 ≤ (L : Int)) (hc : cells + 9 ≤ room_1.cells) (hs : slots + 54 ≤ room_1.slots) (kk : ∀ (σ M : Sg) (fo : Nat → Int64) (H : Heap) (locs : List Loc) (ls : Array Slot), JJ σ M → LW G ad cy adM ao σ M fo H → va_S A s.heap H locs → lv_has ls 7 [(0, .ref b), (1, .ref (ad 0)), (2, .ref (adM 0)), (3, .ref ao), (4, .int (iI i))] → W p l e room_1 s m #[Value.ref b] below meth cd H locs (cells + 9) (slots + 54) Q (F0 m 1523 ls [])) : W p l e room_1 s m #[Value.ref b] below meth cd H locs cells slots Q (F0 m 1035 ls []) := by
  obtain ⟨⟨hx, hb, hml, hown, hts⟩, ⟨hX9, hbl, hbA, hL9⟩, hL, hA, hK, hX, hN3, hfl⟩ := C
  obtain ⟨y0, hy0, e0⟩ := iI_of (xs (i + 1).toNat)
  refine lv_aload_n hx hb dL_law_1035 rfl (lv_at hl 1 rfl) ?_
  refine lv_aload_n hx hb dL_law_1036 rfl (lv_at hl 0 rfl) ?_
  refine lv_iload hx hb dL_law_1037 (lv_at hl 4 rfl) ?_
  refine k_iconst hx hb dL_law_1039 ?_
  refine k_iadd hx hb dL_law_1040 ?_
  refine k_sld (x := i + 1) hx hb hX9 hbl hbA hS (by omega) (by omega) hL9 e0 dL_law_1041 ?_
  refine lv_aload_n hx hb dL_law_1042 rfl (lv_at hl 3 rfl) ?_
  refine k_lh (As := [.ref (ad 0), .int (iI y0), .ref ao]) (rest := []) ⟨hx, hb, hml, hown, hts⟩ (l_debt l hfl G ad cy hL.1.1 ao hL.2.1 fo σ (jj_cBd hJ) y0 (by first | assumption | decide)) (vx_cwSW 3 hts gL_law_L_debt rfl rfl rfl (by decide +kernel) ⟨Nat.le_of_ble_eq_true rfl, Nat.le_of_ble_eq_true rfl⟩) hA hL hK hX hN3 hW hS rfl hl.1 rfl (Nat.le_of_ble_eq_true rfl) dL_law_1043 ⟨by omega, by omega⟩ (fun H locs fo hfo hW hS => ?_)
  refine lv_istore (lv' := [(5, .int (iI (hRes 3 (cFarm σ y0)))), (0, .ref b), (1, .ref (ad 0)), (2, .ref (adM 0)), (3, .ref ao), (4, .int (iI i))]) hx hb dL_law_1046 hl (by decide) rfl (fun ls hl => ?_)
  refine lv_aload_n hx hb dL_law_1048 rfl (lv_at hl 3 rfl) ?_
  refine lv_aload_n hx hb dL_law_1049 rfl (lv_at hl 1 rfl) ?_
  refine lv_iload hx hb dL_law_1050 (lv_at hl 5 rfl) ?_
  refine k_iconst hx hb dL_law_1052 ?_
  refine k_iadd hx hb dL_law_1053 ?_
  refine k_sld (x := i + 1) hx hb hX9 hbl hbA hS (by omega) (by omega) hL9 e0 dL_law_1054 ?_
  have hT := t_debt hJ y0 (by first | assumption | decide)
  refine k_lm (As := [.int (iI y0)]) (rest := []) ⟨hx, hb, hml, hown, hts⟩ (m_debt l G adM cy hL.1.2 M y0 (by first | assumption | decide) (jj_mBd hJ)) (cwV 1 hts gL_law_X3_debt rfl rfl rfl (by decide +kernel) ⟨Nat.le_of_ble_eq_true rfl, Nat.le_of_ble_eq_true rfl⟩) hA hL hK hW hS rfl hl.1 rfl (Nat.le_of_ble_eq_true rfl) dL_law_1055 ⟨by omega, by omega⟩ (fun H locs hW hS => ?_)
  refine lv_istore (lv' := [(6, .int (iI (rOf (qFarm M y0) (M 6 y0.toNat)))), (5, .int (iI (hRes 3 (cFarm σ y0)))), (0, .ref b), (1, .ref (ad 0)), (2, .ref (adM 0)), (3, .ref ao), (4, .int (iI i))]) hx hb dL_law_1058 hl (by decide) rfl (fun ls hl => ?_)
  refine lv_aload_n hx hb dL_law_1060 rfl (lv_at hl 4 rfl) ?_
  refine k_lm (As := []) (rest := []) ⟨hx, hb, hml, hown, hts⟩ (m_thrown l G adM cy hL.1.2 (up M 0 0 (qFarm M y0))) (cwV 0 hts gL_law_X3_thrown rfl rfl rfl (by decide +kernel) ⟨Nat.le_of_ble_eq_true rfl, Nat.le_of_ble_eq_true rfl⟩) hA hL hK hW hS rfl hl.1 rfl (Nat.le_of_ble_eq_true rfl) dL_law_1061 ⟨by omega, by omega⟩ (fun H locs hW hS => ?_)
  refine lv_iload hx hb dL_law_1064 (lv_at hl 1 rfl) ?_
  refine lv_icmp_eq (tgt := 1071) hx hb dL_law_1066 (by decide) (fun _ => ?_) (fun c9 => absurd (by rw [hT.1.1]) c9)
  have J9 : W p l e room_1 s m #[Value.ref b] below meth cd H locs (cells + 1) (slots + 6 * 1) Q (F0 m 1088 ls []) := by
    refine lv_goto (tgt := 1523) hx hb dL_law_1088 (by decide) ?_
    refine W.widen (k := cells + 9) (n := slots + 54) (by omega) (by omega) ?_
    exact kk _ _ _ _ _ _ hT.2.2 hW hS (lv_sub hl [2, 3, 4, 5, 6] rfl)
  refine lv_iload hx hb dL_law_1071 (lv_at hl 1 rfl) ?_
  refine lv_if_ne (tgt := 1088) hx hb dL_law_1073 (by decide) (fun _ => J9) (fun c9 => ?_)
  have h0 : cFarm σ y0 = 0 := hRes_0 hT.1.2 (by decide) c9
  refine lv_aload_n hx hb dL_law_1076 rfl (lv_at hl 5 rfl) ?_
  refine k_iconst hx hb dL_law_1077 ?_
  refine k_old hx hb hK hW (hfo h0) dL_law_1078 ?_
  refine lv_iload hx hb dL_law_1079 (lv_at hl 0 rfl) ?_
  refine lv_i2l hx hb dL_law_1081 rfl ?_
  refine W.lcmp hx hb dL_law_1082 ?_
  refine lv_if_eq (tgt := 1088) hx hb dL_law_1083 (by decide) (fun _ => J9) (fun c9 => absurd ((lg_cmp_eq _ _).mpr (by rw [hT.2.1 h0])) c9)
set_option maxHeartbeats 4000000 in
set_option maxRecDepth 100000 in
theorem law_owes {p : Program} {l : Launch} {e : Env} {s : State} {m : MethodId} {below : List Frame} {meth : Method} {cd : Code} {b L : Nat} {xs : Nat → Int32} {Q : State → Prop} {G : va_G} {ad adM : Nat → Nat} {cy : Nat → ClassId} {ao : Nat} {A : Nat → Prop} (C : LwC p l s m cd b L xs G ad adM cy ao A) {σ M : Sg} {fo : Nat → Int64} {H : Heap} {locs : List Loc} {cells slots : Nat} {ls : Array Slot} {i : Int} (hJ : JJ σ M) (hW : LW G ad cy adM ao σ M fo H) (hS : va_S A s.heap H locs) (hl : lv_has ls 7 [(0, .ref b), (1, .ref (ad 0)), (2, .ref (adM 0)), (3, .ref ao), (4, .int (iI i))]) (hi0 : 0 ≤ i) (hi1 : i + 4 ≤ (L : Int)) (hc : cells + 9 ≤ room_1.cells) (hs : slots + 54 ≤ room_1.slots) (kk : ∀ (σ M : Sg) (fo : Nat → Int64) (H : Heap) (locs : List Loc) (ls : Array Slot), JJ σ M → LW G ad cy adM ao σ M fo H → va_S A s.heap H locs → lv_has ls 7 [(0, .ref b), (1, .ref (ad 0)), (2, .ref (adM 0)), (3, .ref ao), (4, .int (iI i))] → W p l e room_1 s m #[Value.ref b] below meth cd H locs (cells + 9) (slots + 54) Q (F0 m 1523 ls [])) : W p l e room_1 s m #[Value.ref b] below meth cd H locs cells slots Q (F0 m 1091 ls []) := by
  obtain ⟨⟨hx, hb, hml, hown, hts⟩, ⟨hX9, hbl, hbA, hL9⟩, hL, hA, hK, hX, hN3, hfl⟩ := C
  obtain ⟨y0, hy0, e0⟩ := iI_of (xs (i + 1).toNat)
  refine lv_aload_n hx hb dL_law_1091 rfl (lv_at hl 1 rfl) ?_
  refine lv_aload_n hx hb dL_law_1092 rfl (lv_at hl 0 rfl) ?_
  refine lv_iload hx hb dL_law_1093 (lv_at hl 4 rfl) ?_
  refine k_iconst hx hb dL_law_1095 ?_
  refine k_iadd hx hb dL_law_1096 ?_
  refine k_sld (x := i + 1) hx hb hX9 hbl hbA hS (by omega) (by omega) hL9 e0 dL_law_1097 ?_
  refine lv_aload_n hx hb dL_law_1098 rfl (lv_at hl 3 rfl) ?_
  refine k_lh (As := [.ref (ad 0), .int (iI y0), .ref ao]) (rest := []) ⟨hx, hb, hml, hown, hts⟩ (l_owes l hfl G ad cy hL.1.1 ao hL.2.1 fo σ (jj_cBd hJ) y0 (by first | assumption | decide)) (vx_cwSW 3 hts gL_law_L_owes rfl rfl rfl (by decide +kernel) ⟨Nat.le_of_ble_eq_true rfl, Nat.le_of_ble_eq_true rfl⟩) hA hL hK hX hN3 hW hS rfl hl.1 rfl (Nat.le_of_ble_eq_true rfl) dL_law_1099 ⟨by omega, by omega⟩ (fun H locs fo hfo hW hS => ?_)
  refine lv_istore (lv' := [(5, .int (iI (hRes 3 (cFarm σ y0)))), (0, .ref b), (1, .ref (ad 0)), (2, .ref (adM 0)), (3, .ref ao), (4, .int (iI i))]) hx hb dL_law_1102 hl (by decide) rfl (fun ls hl => ?_)
  refine lv_aload_n hx hb dL_law_1104 rfl (lv_at hl 3 rfl) ?_
  refine lv_aload_n hx hb dL_law_1105 rfl (lv_at hl 1 rfl) ?_
  refine lv_iload hx hb dL_law_1106 (lv_at hl 5 rfl) ?_
  refine k_iconst hx hb dL_law_1108 ?_
  refine k_iadd hx hb dL_law_1109 ?_
  refine k_sld (x := i + 1) hx hb hX9 hbl hbA hS (by omega) (by omega) hL9 e0 dL_law_1110 ?_
  have hT := t_owes hJ y0 (by first | assumption | decide)
  refine k_lm (As := [.int (iI y0)]) (rest := []) ⟨hx, hb, hml, hown, hts⟩ (m_owes l G adM cy hL.1.2 M y0 (by first | assumption | decide) (jj_mBd hJ)) (cwV 1 hts gL_law_X3_owes rfl rfl rfl (by decide +kernel) ⟨Nat.le_of_ble_eq_true rfl, Nat.le_of_ble_eq_true rfl⟩) hA hL hK hW hS rfl hl.1 rfl (Nat.le_of_ble_eq_true rfl) dL_law_1111 ⟨by omega, by omega⟩ (fun H locs hW hS => ?_)
  refine lv_istore (lv' := [(6, .int (iI (rOf (qFarm M y0) (gOwes M y0 (M 11 y0.toNat).toNat)))), (5, .int (iI (hRes 3 (cFarm σ y0)))), (0, .ref b), (1, .ref (ad 0)), (2, .ref (adM 0)), (3, .ref ao), (4, .int (iI i))]) hx hb dL_law_1114 hl (by decide) rfl (fun ls hl => ?_)
  refine lv_aload_n hx hb dL_law_1116 rfl (lv_at hl 4 rfl) ?_
  refine k_lm (As := []) (rest := []) ⟨hx, hb, hml, hown, hts⟩ (m_thrown l G adM cy hL.1.2 (up M 0 0 (qFarm M y0))) (cwV 0 hts gL_law_X3_thrown rfl rfl rfl (by decide +kernel) ⟨Nat.le_of_ble_eq_true rfl, Nat.le_of_ble_eq_true rfl⟩) hA hL hK hW hS rfl hl.1 rfl (Nat.le_of_ble_eq_true rfl) dL_law_1117 ⟨by omega, by omega⟩ (fun H locs hW hS => ?_)
  refine lv_iload hx hb dL_law_1120 (lv_at hl 1 rfl) ?_
  refine lv_icmp_eq (tgt := 1127) hx hb dL_law_1122 (by decide) (fun _ => ?_) (fun c9 => absurd (by rw [hT.1.1]) c9)
  have J9 : W p l e room_1 s m #[Value.ref b] below meth cd H locs (cells + 1) (slots + 6 * 1) Q (F0 m 1144 ls []) := by
    refine lv_goto (tgt := 1523) hx hb dL_law_1144 (by decide) ?_
    refine W.widen (k := cells + 9) (n := slots + 54) (by omega) (by omega) ?_
    exact kk _ _ _ _ _ _ hT.2.2 hW hS (lv_sub hl [2, 3, 4, 5, 6] rfl)
  refine lv_iload hx hb dL_law_1127 (lv_at hl 1 rfl) ?_
  refine lv_if_ne (tgt := 1144) hx hb dL_law_1129 (by decide) (fun _ => J9) (fun c9 => ?_)
  have h0 : cFarm σ y0 = 0 := hRes_0 hT.1.2 (by decide) c9
  refine lv_aload_n hx hb dL_law_1132 rfl (lv_at hl 5 rfl) ?_
  refine k_iconst hx hb dL_law_1133 ?_
  refine k_old hx hb hK hW (hfo h0) dL_law_1134 ?_
  refine lv_iload hx hb dL_law_1135 (lv_at hl 0 rfl) ?_
  refine lv_i2l hx hb dL_law_1137 rfl ?_
  refine W.lcmp hx hb dL_law_1138 ?_
  refine lv_if_eq (tgt := 1144) hx hb dL_law_1139 (by decide) (fun _ => J9) (fun c9 => absurd ((lg_cmp_eq _ _).mpr (by rw [hT.2.1 h0])) c9)
set_option maxHeartbeats 4000000 in
set_option maxRecDepth 100000 in
theorem law_instalments {p : Program} {l : Launch} {e : Env} {s : State} {m : MethodId} {below : List Frame} {meth : Method} {cd : Code} {b L : Nat} {xs : Nat → Int32} {Q : State → Prop} {G : va_G} {ad adM : Nat → Nat} {cy : Nat → ClassId} {ao : Nat} {A : Nat → Prop} (C : LwC p l s m cd b L xs G ad adM cy ao A) {σ M : Sg} {fo : Nat → Int64} {H : Heap} {locs : List Loc} {cells slots : Nat} {ls : Array Slot} {i : Int} (hJ : JJ σ M) (hW : LW G ad cy adM ao σ M fo H) (hS : va_S A s.heap H locs) (hl : lv_has ls 7 [(0, .ref b), (1, .ref (ad 0)), (2, .ref (adM 0)), (3, .ref ao), (4, .int (iI i))]) (hi0 : 0 ≤ i) (hi1 : i + 4 ≤ (L : Int)) (hc : cells + 9 ≤ room_1.cells) (hs : slots + 54 ≤ room_1.slots) (kk : ∀ (σ M : Sg) (fo : Nat → Int64) (H : Heap) (locs : List Loc) (ls : Array Slot), JJ σ M → LW G ad cy adM ao σ M fo H → va_S A s.heap H locs → lv_has ls 7 [(0, .ref b), (1, .ref (ad 0)), (2, .ref (adM 0)), (3, .ref ao), (4, .int (iI i))] → W p l e room_1 s m #[Value.ref b] below meth cd H locs (cells + 9) (slots + 54) Q (F0 m 1523 ls [])) : W p l e room_1 s m #[Value.ref b] below meth cd H locs cells slots Q (F0 m 1147 ls []) := by
  obtain ⟨⟨hx, hb, hml, hown, hts⟩, ⟨hX9, hbl, hbA, hL9⟩, hL, hA, hK, hX, hN3, hfl⟩ := C
  obtain ⟨y0, hy0, e0⟩ := iI_of (xs (i + 1).toNat)
  refine lv_aload_n hx hb dL_law_1147 rfl (lv_at hl 1 rfl) ?_
  refine lv_aload_n hx hb dL_law_1148 rfl (lv_at hl 0 rfl) ?_
  refine lv_iload hx hb dL_law_1149 (lv_at hl 4 rfl) ?_
  refine k_iconst hx hb dL_law_1151 ?_
  refine k_iadd hx hb dL_law_1152 ?_
  refine k_sld (x := i + 1) hx hb hX9 hbl hbA hS (by omega) (by omega) hL9 e0 dL_law_1153 ?_
  refine lv_aload_n hx hb dL_law_1154 rfl (lv_at hl 3 rfl) ?_
  refine k_lh (As := [.ref (ad 0), .int (iI y0), .ref ao]) (rest := []) ⟨hx, hb, hml, hown, hts⟩ (l_instalments l hfl G ad cy hL.1.1 ao hL.2.1 fo σ (jj_cBd hJ) y0 (by first | assumption | decide)) (vx_cwSW 3 hts gL_law_L_instalments rfl rfl rfl (by decide +kernel) ⟨Nat.le_of_ble_eq_true rfl, Nat.le_of_ble_eq_true rfl⟩) hA hL hK hX hN3 hW hS rfl hl.1 rfl (Nat.le_of_ble_eq_true rfl) dL_law_1155 ⟨by omega, by omega⟩ (fun H locs fo hfo hW hS => ?_)
  refine lv_istore (lv' := [(5, .int (iI (hRes 3 (cFarm σ y0)))), (0, .ref b), (1, .ref (ad 0)), (2, .ref (adM 0)), (3, .ref ao), (4, .int (iI i))]) hx hb dL_law_1158 hl (by decide) rfl (fun ls hl => ?_)
  refine lv_aload_n hx hb dL_law_1160 rfl (lv_at hl 3 rfl) ?_
  refine lv_aload_n hx hb dL_law_1161 rfl (lv_at hl 1 rfl) ?_
  refine lv_iload hx hb dL_law_1162 (lv_at hl 5 rfl) ?_
  refine k_iconst hx hb dL_law_1164 ?_
  refine k_iadd hx hb dL_law_1165 ?_
  refine k_sld (x := i + 1) hx hb hX9 hbl hbA hS (by omega) (by omega) hL9 e0 dL_law_1166 ?_
  have hT := t_instalments hJ y0 (by first | assumption | decide)
  refine k_lm (As := [.int (iI y0)]) (rest := []) ⟨hx, hb, hml, hown, hts⟩ (m_instalments l G adM cy hL.1.2 M y0 (by first | assumption | decide) (jj_mBd hJ)) (cwV 1 hts gL_law_X3_instalments rfl rfl rfl (by decide +kernel) ⟨Nat.le_of_ble_eq_true rfl, Nat.le_of_ble_eq_true rfl⟩) hA hL hK hW hS rfl hl.1 rfl (Nat.le_of_ble_eq_true rfl) dL_law_1167 ⟨by omega, by omega⟩ (fun H locs hW hS => ?_)
  refine lv_istore (lv' := [(6, .int (iI (rOf (qFarm M y0) (M 11 y0.toNat)))), (5, .int (iI (hRes 3 (cFarm σ y0)))), (0, .ref b), (1, .ref (ad 0)), (2, .ref (adM 0)), (3, .ref ao), (4, .int (iI i))]) hx hb dL_law_1170 hl (by decide) rfl (fun ls hl => ?_)
  refine lv_aload_n hx hb dL_law_1172 rfl (lv_at hl 4 rfl) ?_
  refine k_lm (As := []) (rest := []) ⟨hx, hb, hml, hown, hts⟩ (m_thrown l G adM cy hL.1.2 (up M 0 0 (qFarm M y0))) (cwV 0 hts gL_law_X3_thrown rfl rfl rfl (by decide +kernel) ⟨Nat.le_of_ble_eq_true rfl, Nat.le_of_ble_eq_true rfl⟩) hA hL hK hW hS rfl hl.1 rfl (Nat.le_of_ble_eq_true rfl) dL_law_1173 ⟨by omega, by omega⟩ (fun H locs hW hS => ?_)
  refine lv_iload hx hb dL_law_1176 (lv_at hl 1 rfl) ?_
  refine lv_icmp_eq (tgt := 1183) hx hb dL_law_1178 (by decide) (fun _ => ?_) (fun c9 => absurd (by rw [hT.1.1]) c9)
  have J9 : W p l e room_1 s m #[Value.ref b] below meth cd H locs (cells + 1) (slots + 6 * 1) Q (F0 m 1200 ls []) := by
    refine lv_goto (tgt := 1523) hx hb dL_law_1200 (by decide) ?_
    refine W.widen (k := cells + 9) (n := slots + 54) (by omega) (by omega) ?_
    exact kk _ _ _ _ _ _ hT.2.2 hW hS (lv_sub hl [2, 3, 4, 5, 6] rfl)
  refine lv_iload hx hb dL_law_1183 (lv_at hl 1 rfl) ?_
  refine lv_if_ne (tgt := 1200) hx hb dL_law_1185 (by decide) (fun _ => J9) (fun c9 => ?_)
  have h0 : cFarm σ y0 = 0 := hRes_0 hT.1.2 (by decide) c9
  refine lv_aload_n hx hb dL_law_1188 rfl (lv_at hl 5 rfl) ?_
  refine k_iconst hx hb dL_law_1189 ?_
  refine k_old hx hb hK hW (hfo h0) dL_law_1190 ?_
  refine lv_iload hx hb dL_law_1191 (lv_at hl 0 rfl) ?_
  refine lv_i2l hx hb dL_law_1193 rfl ?_
  refine W.lcmp hx hb dL_law_1194 ?_
  refine lv_if_eq (tgt := 1200) hx hb dL_law_1195 (by decide) (fun _ => J9) (fun c9 => absurd ((lg_cmp_eq _ _).mpr (by rw [hT.2.1 h0])) c9)
set_option maxHeartbeats 4000000 in
set_option maxRecDepth 100000 in
theorem law_purse {p : Program} {l : Launch} {e : Env} {s : State} {m : MethodId} {below : List Frame} {meth : Method} {cd : Code} {b L : Nat} {xs : Nat → Int32} {Q : State → Prop} {G : va_G} {ad adM : Nat → Nat} {cy : Nat → ClassId} {ao : Nat} {A : Nat → Prop} (C : LwC p l s m cd b L xs G ad adM cy ao A) {σ M : Sg} {fo : Nat → Int64} {H : Heap} {locs : List Loc} {cells slots : Nat} {ls : Array Slot} {i : Int} (hJ : JJ σ M) (hW : LW G ad cy adM ao σ M fo H) (hS : va_S A s.heap H locs) (hl : lv_has ls 7 [(0, .ref b), (1, .ref (ad 0)), (2, .ref (adM 0)), (3, .ref ao), (4, .int (iI i))]) (hi0 : 0 ≤ i) (hi1 : i + 4 ≤ (L : Int)) (hc : cells + 9 ≤ room_1.cells) (hs : slots + 54 ≤ room_1.slots) (kk : ∀ (σ M : Sg) (fo : Nat → Int64) (H : Heap) (locs : List Loc) (ls : Array Slot), JJ σ M → LW G ad cy adM ao σ M fo H → va_S A s.heap H locs → lv_has ls 7 [(0, .ref b), (1, .ref (ad 0)), (2, .ref (adM 0)), (3, .ref ao), (4, .int (iI i))] → W p l e room_1 s m #[Value.ref b] below meth cd H locs (cells + 9) (slots + 54) Q (F0 m 1523 ls [])) : W p l e room_1 s m #[Value.ref b] below meth cd H locs cells slots Q (F0 m 1203 ls []) := by
  obtain ⟨⟨hx, hb, hml, hown, hts⟩, ⟨hX9, hbl, hbA, hL9⟩, hL, hA, hK, hX, hN3, hfl⟩ := C
  obtain ⟨y0, hy0, e0⟩ := iI_of (xs (i + 1).toNat)
  refine lv_aload_n hx hb dL_law_1203 rfl (lv_at hl 1 rfl) ?_
  refine lv_aload_n hx hb dL_law_1204 rfl (lv_at hl 0 rfl) ?_
  refine lv_iload hx hb dL_law_1205 (lv_at hl 4 rfl) ?_
  refine k_iconst hx hb dL_law_1207 ?_
  refine k_iadd hx hb dL_law_1208 ?_
  refine k_sld (x := i + 1) hx hb hX9 hbl hbA hS (by omega) (by omega) hL9 e0 dL_law_1209 ?_
  refine lv_aload_n hx hb dL_law_1210 rfl (lv_at hl 3 rfl) ?_
  refine k_lh (As := [.ref (ad 0), .int (iI y0), .ref ao]) (rest := []) ⟨hx, hb, hml, hown, hts⟩ (l_purse l hfl G ad cy hL.1.1 ao hL.2.1 fo σ (jj_cBd hJ) y0 (by first | assumption | decide)) (vx_cwSW 3 hts gL_law_L_purse rfl rfl rfl (by decide +kernel) ⟨Nat.le_of_ble_eq_true rfl, Nat.le_of_ble_eq_true rfl⟩) hA hL hK hX hN3 hW hS rfl hl.1 rfl (Nat.le_of_ble_eq_true rfl) dL_law_1211 ⟨by omega, by omega⟩ (fun H locs fo hfo hW hS => ?_)
  refine lv_istore (lv' := [(5, .int (iI (hRes 3 (cFarm σ y0)))), (0, .ref b), (1, .ref (ad 0)), (2, .ref (adM 0)), (3, .ref ao), (4, .int (iI i))]) hx hb dL_law_1214 hl (by decide) rfl (fun ls hl => ?_)
  refine lv_aload_n hx hb dL_law_1216 rfl (lv_at hl 3 rfl) ?_
  refine lv_aload_n hx hb dL_law_1217 rfl (lv_at hl 1 rfl) ?_
  refine lv_iload hx hb dL_law_1218 (lv_at hl 5 rfl) ?_
  refine k_iconst hx hb dL_law_1220 ?_
  refine k_iadd hx hb dL_law_1221 ?_
  refine k_sld (x := i + 1) hx hb hX9 hbl hbA hS (by omega) (by omega) hL9 e0 dL_law_1222 ?_
  have hT := t_purse hJ y0 (by first | assumption | decide)
  refine k_lm (As := [.int (iI y0)]) (rest := []) ⟨hx, hb, hml, hown, hts⟩ (m_purse l G adM cy hL.1.2 M y0 (by first | assumption | decide) (jj_mBd hJ)) (cwV 1 hts gL_law_X3_purse rfl rfl rfl (by decide +kernel) ⟨Nat.le_of_ble_eq_true rfl, Nat.le_of_ble_eq_true rfl⟩) hA hL hK hW hS rfl hl.1 rfl (Nat.le_of_ble_eq_true rfl) dL_law_1223 ⟨by omega, by omega⟩ (fun H locs hW hS => ?_)
  refine lv_istore (lv' := [(6, .int (iI (rOf (qFarm M y0) (M 5 y0.toNat)))), (5, .int (iI (hRes 3 (cFarm σ y0)))), (0, .ref b), (1, .ref (ad 0)), (2, .ref (adM 0)), (3, .ref ao), (4, .int (iI i))]) hx hb dL_law_1226 hl (by decide) rfl (fun ls hl => ?_)
  refine lv_aload_n hx hb dL_law_1228 rfl (lv_at hl 4 rfl) ?_
  refine k_lm (As := []) (rest := []) ⟨hx, hb, hml, hown, hts⟩ (m_thrown l G adM cy hL.1.2 (up M 0 0 (qFarm M y0))) (cwV 0 hts gL_law_X3_thrown rfl rfl rfl (by decide +kernel) ⟨Nat.le_of_ble_eq_true rfl, Nat.le_of_ble_eq_true rfl⟩) hA hL hK hW hS rfl hl.1 rfl (Nat.le_of_ble_eq_true rfl) dL_law_1229 ⟨by omega, by omega⟩ (fun H locs hW hS => ?_)
  refine lv_iload hx hb dL_law_1232 (lv_at hl 1 rfl) ?_
  refine lv_icmp_eq (tgt := 1239) hx hb dL_law_1234 (by decide) (fun _ => ?_) (fun c9 => absurd (by rw [hT.1.1]) c9)
  have J9 : W p l e room_1 s m #[Value.ref b] below meth cd H locs (cells + 1) (slots + 6 * 1) Q (F0 m 1256 ls []) := by
    refine lv_goto (tgt := 1523) hx hb dL_law_1256 (by decide) ?_
    refine W.widen (k := cells + 9) (n := slots + 54) (by omega) (by omega) ?_
    exact kk _ _ _ _ _ _ hT.2.2 hW hS (lv_sub hl [2, 3, 4, 5, 6] rfl)
  refine lv_iload hx hb dL_law_1239 (lv_at hl 1 rfl) ?_
  refine lv_if_ne (tgt := 1256) hx hb dL_law_1241 (by decide) (fun _ => J9) (fun c9 => ?_)
  have h0 : cFarm σ y0 = 0 := hRes_0 hT.1.2 (by decide) c9
  refine lv_aload_n hx hb dL_law_1244 rfl (lv_at hl 5 rfl) ?_
  refine k_iconst hx hb dL_law_1245 ?_
  refine k_old hx hb hK hW (hfo h0) dL_law_1246 ?_
  refine lv_iload hx hb dL_law_1247 (lv_at hl 0 rfl) ?_
  refine lv_i2l hx hb dL_law_1249 rfl ?_
  refine W.lcmp hx hb dL_law_1250 ?_
  refine lv_if_eq (tgt := 1256) hx hb dL_law_1251 (by decide) (fun _ => J9) (fun c9 => absurd ((lg_cmp_eq _ _).mpr (by rw [hT.2.1 h0])) c9)
set_option maxHeartbeats 4000000 in
set_option maxRecDepth 100000 in
theorem law_grain {p : Program} {l : Launch} {e : Env} {s : State} {m : MethodId} {below : List Frame} {meth : Method} {cd : Code} {b L : Nat} {xs : Nat → Int32} {Q : State → Prop} {G : va_G} {ad adM : Nat → Nat} {cy : Nat → ClassId} {ao : Nat} {A : Nat → Prop} (C : LwC p l s m cd b L xs G ad adM cy ao A) {σ M : Sg} {fo : Nat → Int64} {H : Heap} {locs : List Loc} {cells slots : Nat} {ls : Array Slot} {i : Int} (hJ : JJ σ M) (hW : LW G ad cy adM ao σ M fo H) (hS : va_S A s.heap H locs) (hl : lv_has ls 7 [(0, .ref b), (1, .ref (ad 0)), (2, .ref (adM 0)), (3, .ref ao), (4, .int (iI i))]) (hi0 : 0 ≤ i) (hi1 : i + 4 ≤ (L : Int)) (hc : cells + 9 ≤ room_1.cells) (hs : slots + 54 ≤ room_1.slots) (kk : ∀ (σ M : Sg) (fo : Nat → Int64) (H : Heap) (locs : List Loc) (ls : Array Slot), JJ σ M → LW G ad cy adM ao σ M fo H → va_S A s.heap H locs → lv_has ls 7 [(0, .ref b), (1, .ref (ad 0)), (2, .ref (adM 0)), (3, .ref ao), (4, .int (iI i))] → W p l e room_1 s m #[Value.ref b] below meth cd H locs (cells + 9) (slots + 54) Q (F0 m 1523 ls [])) : W p l e room_1 s m #[Value.ref b] below meth cd H locs cells slots Q (F0 m 1259 ls []) := by
  obtain ⟨⟨hx, hb, hml, hown, hts⟩, ⟨hX9, hbl, hbA, hL9⟩, hL, hA, hK, hX, hN3, hfl⟩ := C
  obtain ⟨y0, hy0, e0⟩ := iI_of (xs (i + 1).toNat)
  obtain ⟨y1, hy1, e1⟩ := iI_of (xs (i + 2).toNat)
  refine lv_aload_n hx hb dL_law_1259 rfl (lv_at hl 1 rfl) ?_
  refine lv_aload_n hx hb dL_law_1260 rfl (lv_at hl 0 rfl) ?_
  refine lv_iload hx hb dL_law_1261 (lv_at hl 4 rfl) ?_
  refine k_iconst hx hb dL_law_1263 ?_
  refine k_iadd hx hb dL_law_1264 ?_
  refine k_sld (x := i + 1) hx hb hX9 hbl hbA hS (by omega) (by omega) hL9 e0 dL_law_1265 ?_
  refine lv_aload_n hx hb dL_law_1266 rfl (lv_at hl 0 rfl) ?_
  refine lv_iload hx hb dL_law_1267 (lv_at hl 4 rfl) ?_
  refine k_iconst hx hb dL_law_1269 ?_
  refine k_iadd hx hb dL_law_1270 ?_
  refine k_sld (x := i + 2) hx hb hX9 hbl hbA hS (by omega) (by omega) hL9 e1 dL_law_1271 ?_
  refine k_if_eq (tgt := 1279) hx hb dL_law_1272 (by decide) (by assumption) (fun cz => ?_) (fun cz => ?_)
  · refine k_iconst hx hb dL_law_1279 ?_
    refine lv_aload_n hx hb dL_law_1280 rfl (lv_at hl 3 rfl) ?_
    refine k_lh (As := [.ref (ad 0), .int (iI y0), .int (iI 0), .ref ao]) (rest := []) ⟨hx, hb, hml, hown, hts⟩ (l_grain l hfl G ad cy hL.1.1 ao hL.2.1 fo σ (jj_cBd hJ) y0 0 (by first | assumption | decide) (by first | assumption | decide)) (vx_cwSW 4 hts gL_law_L_grain rfl rfl rfl (by decide +kernel) ⟨Nat.le_of_ble_eq_true rfl, Nat.le_of_ble_eq_true rfl⟩) hA hL hK hX hN3 hW hS rfl hl.1 rfl (Nat.le_of_ble_eq_true rfl) dL_law_1281 ⟨by omega, by omega⟩ (fun H locs fo hfo hW hS => ?_)
    refine lv_istore (lv' := [(5, .int (iI (hRes 3 (cFarm σ y0)))), (0, .ref b), (1, .ref (ad 0)), (2, .ref (adM 0)), (3, .ref ao), (4, .int (iI i))]) hx hb dL_law_1284 hl (by decide) rfl (fun ls hl => ?_)
    refine lv_aload_n hx hb dL_law_1286 rfl (lv_at hl 3 rfl) ?_
    refine lv_aload_n hx hb dL_law_1287 rfl (lv_at hl 1 rfl) ?_
    refine lv_iload hx hb dL_law_1288 (lv_at hl 5 rfl) ?_
    refine k_iconst hx hb dL_law_1290 ?_
    refine k_iadd hx hb dL_law_1291 ?_
    refine k_sld (x := i + 1) hx hb hX9 hbl hbA hS (by omega) (by omega) hL9 e0 dL_law_1292 ?_
    refine lv_aload_n hx hb dL_law_1293 rfl (lv_at hl 1 rfl) ?_
    refine lv_iload hx hb dL_law_1294 (lv_at hl 5 rfl) ?_
    refine k_iconst hx hb dL_law_1296 ?_
    refine k_iadd hx hb dL_law_1297 ?_
    refine k_sld (x := i + 2) hx hb hX9 hbl hbA hS (by omega) (by omega) hL9 e1 dL_law_1298 ?_
    refine k_if_eq (tgt := 1306) hx hb dL_law_1299 (by decide) (by assumption) (fun _ => ?_) (fun c9 => absurd cz c9)
    refine k_iconst hx hb dL_law_1306 ?_
    have hT := t_grain hJ y0 0 (by first | assumption | decide) (by first | assumption | decide)
    refine k_lm (As := [.int (iI y0), .int (iI 0)]) (rest := []) ⟨hx, hb, hml, hown, hts⟩ (m_grain l G adM cy hL.1.2 M y0 0 (by first | assumption | decide) (by first | assumption | decide) (jj_mBd hJ)) (cwV 2 hts gL_law_X3_grain rfl rfl rfl (by decide +kernel) ⟨Nat.le_of_ble_eq_true rfl, Nat.le_of_ble_eq_true rfl⟩) hA hL hK hW hS rfl hl.1 rfl (Nat.le_of_ble_eq_true rfl) dL_law_1307 ⟨by omega, by omega⟩ (fun H locs hW hS => ?_)
    refine lv_istore (lv' := [(6, .int (iI (rOf (qFarm M y0) (if 0 = 0 then M 8 y0.toNat else M 9 y0.toNat)))), (5, .int (iI (hRes 3 (cFarm σ y0)))), (0, .ref b), (1, .ref (ad 0)), (2, .ref (adM 0)), (3, .ref ao), (4, .int (iI i))]) hx hb dL_law_1310 hl (by decide) rfl (fun ls hl => ?_)
    refine lv_aload_n hx hb dL_law_1312 rfl (lv_at hl 4 rfl) ?_
    refine k_lm (As := []) (rest := []) ⟨hx, hb, hml, hown, hts⟩ (m_thrown l G adM cy hL.1.2 (up M 0 0 (qFarm M y0))) (cwV 0 hts gL_law_X3_thrown rfl rfl rfl (by decide +kernel) ⟨Nat.le_of_ble_eq_true rfl, Nat.le_of_ble_eq_true rfl⟩) hA hL hK hW hS rfl hl.1 rfl (Nat.le_of_ble_eq_true rfl) dL_law_1313 ⟨by omega, by omega⟩ (fun H locs hW hS => ?_)
    refine lv_iload hx hb dL_law_1316 (lv_at hl 1 rfl) ?_
    refine lv_icmp_eq (tgt := 1323) hx hb dL_law_1318 (by decide) (fun _ => ?_) (fun c9 => absurd (by rw [hT.1.1]) c9)
    have J9 : W p l e room_1 s m #[Value.ref b] below meth cd H locs (cells + 1) (slots + 6 * 1) Q (F0 m 1340 ls []) := by
      refine lv_goto (tgt := 1523) hx hb dL_law_1340 (by decide) ?_
      refine W.widen (k := cells + 9) (n := slots + 54) (by omega) (by omega) ?_
      exact kk _ _ _ _ _ _ hT.2.2 hW hS (lv_sub hl [2, 3, 4, 5, 6] rfl)
    refine lv_iload hx hb dL_law_1323 (lv_at hl 1 rfl) ?_
    refine lv_if_ne (tgt := 1340) hx hb dL_law_1325 (by decide) (fun _ => J9) (fun c9 => ?_)
    have h0 : cFarm σ y0 = 0 := hRes_0 hT.1.2 (by decide) c9
    refine lv_aload_n hx hb dL_law_1328 rfl (lv_at hl 5 rfl) ?_
    refine k_iconst hx hb dL_law_1329 ?_
    refine k_old hx hb hK hW (hfo h0) dL_law_1330 ?_
    refine lv_iload hx hb dL_law_1331 (lv_at hl 0 rfl) ?_
    refine lv_i2l hx hb dL_law_1333 rfl ?_
    refine W.lcmp hx hb dL_law_1334 ?_
    refine lv_if_eq (tgt := 1340) hx hb dL_law_1335 (by decide) (fun _ => J9) (fun c9 => absurd ((lg_cmp_eq _ _).mpr (by rw [hT.2.1 h0])) c9)
  · refine k_iconst hx hb dL_law_1275 ?_
    refine lv_goto (tgt := 1280) hx hb dL_law_1276 (by decide) ?_
    refine lv_aload_n hx hb dL_law_1280 rfl (lv_at hl 3 rfl) ?_
    refine k_lh (As := [.ref (ad 0), .int (iI y0), .int (iI 1), .ref ao]) (rest := []) ⟨hx, hb, hml, hown, hts⟩ (l_grain l hfl G ad cy hL.1.1 ao hL.2.1 fo σ (jj_cBd hJ) y0 1 (by first | assumption | decide) (by first | assumption | decide)) (vx_cwSW 4 hts gL_law_L_grain rfl rfl rfl (by decide +kernel) ⟨Nat.le_of_ble_eq_true rfl, Nat.le_of_ble_eq_true rfl⟩) hA hL hK hX hN3 hW hS rfl hl.1 rfl (Nat.le_of_ble_eq_true rfl) dL_law_1281 ⟨by omega, by omega⟩ (fun H locs fo hfo hW hS => ?_)
    refine lv_istore (lv' := [(5, .int (iI (hRes 3 (cFarm σ y0)))), (0, .ref b), (1, .ref (ad 0)), (2, .ref (adM 0)), (3, .ref ao), (4, .int (iI i))]) hx hb dL_law_1284 hl (by decide) rfl (fun ls hl => ?_)
    refine lv_aload_n hx hb dL_law_1286 rfl (lv_at hl 3 rfl) ?_
    refine lv_aload_n hx hb dL_law_1287 rfl (lv_at hl 1 rfl) ?_
    refine lv_iload hx hb dL_law_1288 (lv_at hl 5 rfl) ?_
    refine k_iconst hx hb dL_law_1290 ?_
    refine k_iadd hx hb dL_law_1291 ?_
    refine k_sld (x := i + 1) hx hb hX9 hbl hbA hS (by omega) (by omega) hL9 e0 dL_law_1292 ?_
    refine lv_aload_n hx hb dL_law_1293 rfl (lv_at hl 1 rfl) ?_
    refine lv_iload hx hb dL_law_1294 (lv_at hl 5 rfl) ?_
    refine k_iconst hx hb dL_law_1296 ?_
    refine k_iadd hx hb dL_law_1297 ?_
    refine k_sld (x := i + 2) hx hb hX9 hbl hbA hS (by omega) (by omega) hL9 e1 dL_law_1298 ?_
    refine k_if_eq (tgt := 1306) hx hb dL_law_1299 (by decide) (by assumption) (fun c9 => absurd c9 cz) (fun _ => ?_)
    refine k_iconst hx hb dL_law_1302 ?_
    refine lv_goto (tgt := 1307) hx hb dL_law_1303 (by decide) ?_
    have hT := t_grain hJ y0 1 (by first | assumption | decide) (by first | assumption | decide)
    refine k_lm (As := [.int (iI y0), .int (iI 1)]) (rest := []) ⟨hx, hb, hml, hown, hts⟩ (m_grain l G adM cy hL.1.2 M y0 1 (by first | assumption | decide) (by first | assumption | decide) (jj_mBd hJ)) (cwV 2 hts gL_law_X3_grain rfl rfl rfl (by decide +kernel) ⟨Nat.le_of_ble_eq_true rfl, Nat.le_of_ble_eq_true rfl⟩) hA hL hK hW hS rfl hl.1 rfl (Nat.le_of_ble_eq_true rfl) dL_law_1307 ⟨by omega, by omega⟩ (fun H locs hW hS => ?_)
    refine lv_istore (lv' := [(6, .int (iI (rOf (qFarm M y0) (if 1 = 0 then M 8 y0.toNat else M 9 y0.toNat)))), (5, .int (iI (hRes 3 (cFarm σ y0)))), (0, .ref b), (1, .ref (ad 0)), (2, .ref (adM 0)), (3, .ref ao), (4, .int (iI i))]) hx hb dL_law_1310 hl (by decide) rfl (fun ls hl => ?_)
    refine lv_aload_n hx hb dL_law_1312 rfl (lv_at hl 4 rfl) ?_
    refine k_lm (As := []) (rest := []) ⟨hx, hb, hml, hown, hts⟩ (m_thrown l G adM cy hL.1.2 (up M 0 0 (qFarm M y0))) (cwV 0 hts gL_law_X3_thrown rfl rfl rfl (by decide +kernel) ⟨Nat.le_of_ble_eq_true rfl, Nat.le_of_ble_eq_true rfl⟩) hA hL hK hW hS rfl hl.1 rfl (Nat.le_of_ble_eq_true rfl) dL_law_1313 ⟨by omega, by omega⟩ (fun H locs hW hS => ?_)
    refine lv_iload hx hb dL_law_1316 (lv_at hl 1 rfl) ?_
    refine lv_icmp_eq (tgt := 1323) hx hb dL_law_1318 (by decide) (fun _ => ?_) (fun c9 => absurd (by rw [hT.1.1]) c9)
    have J9 : W p l e room_1 s m #[Value.ref b] below meth cd H locs (cells + 1) (slots + 6 * 1) Q (F0 m 1340 ls []) := by
      refine lv_goto (tgt := 1523) hx hb dL_law_1340 (by decide) ?_
      refine W.widen (k := cells + 9) (n := slots + 54) (by omega) (by omega) ?_
      exact kk _ _ _ _ _ _ hT.2.2 hW hS (lv_sub hl [2, 3, 4, 5, 6] rfl)
    refine lv_iload hx hb dL_law_1323 (lv_at hl 1 rfl) ?_
    refine lv_if_ne (tgt := 1340) hx hb dL_law_1325 (by decide) (fun _ => J9) (fun c9 => ?_)
    have h0 : cFarm σ y0 = 0 := hRes_0 hT.1.2 (by decide) c9
    refine lv_aload_n hx hb dL_law_1328 rfl (lv_at hl 5 rfl) ?_
    refine k_iconst hx hb dL_law_1329 ?_
    refine k_old hx hb hK hW (hfo h0) dL_law_1330 ?_
    refine lv_iload hx hb dL_law_1331 (lv_at hl 0 rfl) ?_
    refine lv_i2l hx hb dL_law_1333 rfl ?_
    refine W.lcmp hx hb dL_law_1334 ?_
    refine lv_if_eq (tgt := 1340) hx hb dL_law_1335 (by decide) (fun _ => J9) (fun c9 => absurd ((lg_cmp_eq _ _).mpr (by rw [hT.2.1 h0])) c9)
set_option maxHeartbeats 4000000 in
set_option maxRecDepth 100000 in
theorem law_called {p : Program} {l : Launch} {e : Env} {s : State} {m : MethodId} {below : List Frame} {meth : Method} {cd : Code} {b L : Nat} {xs : Nat → Int32} {Q : State → Prop} {G : va_G} {ad adM : Nat → Nat} {cy : Nat → ClassId} {ao : Nat} {A : Nat → Prop} (C : LwC p l s m cd b L xs G ad adM cy ao A) {σ M : Sg} {fo : Nat → Int64} {H : Heap} {locs : List Loc} {cells slots : Nat} {ls : Array Slot} {i : Int} (hJ : JJ σ M) (hW : LW G ad cy adM ao σ M fo H) (hS : va_S A s.heap H locs) (hl : lv_has ls 7 [(0, .ref b), (1, .ref (ad 0)), (2, .ref (adM 0)), (3, .ref ao), (4, .int (iI i))]) (hi0 : 0 ≤ i) (hi1 : i + 4 ≤ (L : Int)) (hc : cells + 9 ≤ room_1.cells) (hs : slots + 54 ≤ room_1.slots) (kk : ∀ (σ M : Sg) (fo : Nat → Int64) (H : Heap) (locs : List Loc) (ls : Array Slot), JJ σ M → LW G ad cy adM ao σ M fo H → va_S A s.heap H locs → lv_has ls 7 [(0, .ref b), (1, .ref (ad 0)), (2, .ref (adM 0)), (3, .ref ao), (4, .int (iI i))] → W p l e room_1 s m #[Value.ref b] below meth cd H locs (cells + 9) (slots + 54) Q (F0 m 1523 ls [])) : W p l e room_1 s m #[Value.ref b] below meth cd H locs cells slots Q (F0 m 1343 ls []) := by
  obtain ⟨⟨hx, hb, hml, hown, hts⟩, ⟨hX9, hbl, hbA, hL9⟩, hL, hA, hK, hX, hN3, hfl⟩ := C
  obtain ⟨y0, hy0, e0⟩ := iI_of (xs (i + 1).toNat)
  refine lv_aload_n hx hb dL_law_1343 rfl (lv_at hl 1 rfl) ?_
  refine lv_aload_n hx hb dL_law_1344 rfl (lv_at hl 0 rfl) ?_
  refine lv_iload hx hb dL_law_1345 (lv_at hl 4 rfl) ?_
  refine k_iconst hx hb dL_law_1347 ?_
  refine k_iadd hx hb dL_law_1348 ?_
  refine k_sld (x := i + 1) hx hb hX9 hbl hbA hS (by omega) (by omega) hL9 e0 dL_law_1349 ?_
  refine lv_aload_n hx hb dL_law_1350 rfl (lv_at hl 3 rfl) ?_
  refine k_lh (As := [.ref (ad 0), .int (iI y0), .ref ao]) (rest := []) ⟨hx, hb, hml, hown, hts⟩ (l_called l hfl G ad cy hL.1.1 ao hL.2.1 fo σ (jj_cBd hJ) y0 (by first | assumption | decide)) (vx_cwSW 3 hts gL_law_L_called rfl rfl rfl (by decide +kernel) ⟨Nat.le_of_ble_eq_true rfl, Nat.le_of_ble_eq_true rfl⟩) hA hL hK hX hN3 hW hS rfl hl.1 rfl (Nat.le_of_ble_eq_true rfl) dL_law_1351 ⟨by omega, by omega⟩ (fun H locs fo hfo hW hS => ?_)
  refine lv_istore (lv' := [(5, .int (iI (hRes 3 (cFarm σ y0)))), (0, .ref b), (1, .ref (ad 0)), (2, .ref (adM 0)), (3, .ref ao), (4, .int (iI i))]) hx hb dL_law_1354 hl (by decide) rfl (fun ls hl => ?_)
  refine lv_aload_n hx hb dL_law_1356 rfl (lv_at hl 3 rfl) ?_
  refine lv_aload_n hx hb dL_law_1357 rfl (lv_at hl 1 rfl) ?_
  refine lv_iload hx hb dL_law_1358 (lv_at hl 5 rfl) ?_
  refine k_iconst hx hb dL_law_1360 ?_
  refine k_iadd hx hb dL_law_1361 ?_
  refine k_sld (x := i + 1) hx hb hX9 hbl hbA hS (by omega) (by omega) hL9 e0 dL_law_1362 ?_
  have hT := t_called hJ y0 (by first | assumption | decide)
  refine k_lm (As := [.int (iI y0)]) (rest := []) ⟨hx, hb, hml, hown, hts⟩ (m_called l G adM cy hL.1.2 M y0 (by first | assumption | decide) (jj_mBd hJ)) (cwV 1 hts gL_law_X3_called rfl rfl rfl (by decide +kernel) ⟨Nat.le_of_ble_eq_true rfl, Nat.le_of_ble_eq_true rfl⟩) hA hL hK hW hS rfl hl.1 rfl (Nat.le_of_ble_eq_true rfl) dL_law_1363 ⟨by omega, by omega⟩ (fun H locs hW hS => ?_)
  refine lv_istore (lv' := [(6, .int (iI (rOf (qFarm M y0) (M 18 y0.toNat)))), (5, .int (iI (hRes 3 (cFarm σ y0)))), (0, .ref b), (1, .ref (ad 0)), (2, .ref (adM 0)), (3, .ref ao), (4, .int (iI i))]) hx hb dL_law_1366 hl (by decide) rfl (fun ls hl => ?_)
  refine lv_aload_n hx hb dL_law_1368 rfl (lv_at hl 4 rfl) ?_
  refine k_lm (As := []) (rest := []) ⟨hx, hb, hml, hown, hts⟩ (m_thrown l G adM cy hL.1.2 (up M 0 0 (qFarm M y0))) (cwV 0 hts gL_law_X3_thrown rfl rfl rfl (by decide +kernel) ⟨Nat.le_of_ble_eq_true rfl, Nat.le_of_ble_eq_true rfl⟩) hA hL hK hW hS rfl hl.1 rfl (Nat.le_of_ble_eq_true rfl) dL_law_1369 ⟨by omega, by omega⟩ (fun H locs hW hS => ?_)
  refine lv_iload hx hb dL_law_1372 (lv_at hl 1 rfl) ?_
  refine lv_icmp_eq (tgt := 1379) hx hb dL_law_1374 (by decide) (fun _ => ?_) (fun c9 => absurd (by rw [hT.1.1]) c9)
  have J9 : W p l e room_1 s m #[Value.ref b] below meth cd H locs (cells + 1) (slots + 6 * 1) Q (F0 m 1396 ls []) := by
    refine lv_goto (tgt := 1523) hx hb dL_law_1396 (by decide) ?_
    refine W.widen (k := cells + 9) (n := slots + 54) (by omega) (by omega) ?_
    exact kk _ _ _ _ _ _ hT.2.2 hW hS (lv_sub hl [2, 3, 4, 5, 6] rfl)
  refine lv_iload hx hb dL_law_1379 (lv_at hl 1 rfl) ?_
  refine lv_if_ne (tgt := 1396) hx hb dL_law_1381 (by decide) (fun _ => J9) (fun c9 => ?_)
  have h0 : cFarm σ y0 = 0 := hRes_0 hT.1.2 (by decide) c9
  refine lv_aload_n hx hb dL_law_1384 rfl (lv_at hl 5 rfl) ?_
  refine k_iconst hx hb dL_law_1385 ?_
  refine k_old hx hb hK hW (hfo h0) dL_law_1386 ?_
  refine lv_iload hx hb dL_law_1387 (lv_at hl 0 rfl) ?_
  refine lv_i2l hx hb dL_law_1389 rfl ?_
  refine W.lcmp hx hb dL_law_1390 ?_
  refine lv_if_eq (tgt := 1396) hx hb dL_law_1391 (by decide) (fun _ => J9) (fun c9 => absurd ((lg_cmp_eq _ _).mpr (by rw [hT.2.1 h0])) c9)
set_option maxHeartbeats 4000000 in
set_option maxRecDepth 100000 in
theorem law_repaid {p : Program} {l : Launch} {e : Env} {s : State} {m : MethodId} {below : List Frame} {meth : Method} {cd : Code} {b L : Nat} {xs : Nat → Int32} {Q : State → Prop} {G : va_G} {ad adM : Nat → Nat} {cy : Nat → ClassId} {ao : Nat} {A : Nat → Prop} (C : LwC p l s m cd b L xs G ad adM cy ao A) {σ M : Sg} {fo : Nat → Int64} {H : Heap} {locs : List Loc} {cells slots : Nat} {ls : Array Slot} {i : Int} (hJ : JJ σ M) (hW : LW G ad cy adM ao σ M fo H) (hS : va_S A s.heap H locs) (hl : lv_has ls 7 [(0, .ref b), (1, .ref (ad 0)), (2, .ref (adM 0)), (3, .ref ao), (4, .int (iI i))]) (hi0 : 0 ≤ i) (hi1 : i + 4 ≤ (L : Int)) (hc : cells + 9 ≤ room_1.cells) (hs : slots + 54 ≤ room_1.slots) (kk : ∀ (σ M : Sg) (fo : Nat → Int64) (H : Heap) (locs : List Loc) (ls : Array Slot), JJ σ M → LW G ad cy adM ao σ M fo H → va_S A s.heap H locs → lv_has ls 7 [(0, .ref b), (1, .ref (ad 0)), (2, .ref (adM 0)), (3, .ref ao), (4, .int (iI i))] → W p l e room_1 s m #[Value.ref b] below meth cd H locs (cells + 9) (slots + 54) Q (F0 m 1523 ls [])) : W p l e room_1 s m #[Value.ref b] below meth cd H locs cells slots Q (F0 m 1399 ls []) := by
  obtain ⟨⟨hx, hb, hml, hown, hts⟩, ⟨hX9, hbl, hbA, hL9⟩, hL, hA, hK, hX, hN3, hfl⟩ := C
  obtain ⟨y0, hy0, e0⟩ := iI_of (xs (i + 1).toNat)
  obtain ⟨y1, hy1, e1⟩ := iI_of (xs (i + 2).toNat)
  refine lv_aload_n hx hb dL_law_1399 rfl (lv_at hl 1 rfl) ?_
  refine lv_aload_n hx hb dL_law_1400 rfl (lv_at hl 0 rfl) ?_
  refine lv_iload hx hb dL_law_1401 (lv_at hl 4 rfl) ?_
  refine k_iconst hx hb dL_law_1403 ?_
  refine k_iadd hx hb dL_law_1404 ?_
  refine k_sld (x := i + 1) hx hb hX9 hbl hbA hS (by omega) (by omega) hL9 e0 dL_law_1405 ?_
  refine lv_aload_n hx hb dL_law_1406 rfl (lv_at hl 0 rfl) ?_
  refine lv_iload hx hb dL_law_1407 (lv_at hl 4 rfl) ?_
  refine k_iconst hx hb dL_law_1409 ?_
  refine k_iadd hx hb dL_law_1410 ?_
  refine k_sld (x := i + 2) hx hb hX9 hbl hbA hS (by omega) (by omega) hL9 e1 dL_law_1411 ?_
  refine lv_aload_n hx hb dL_law_1412 rfl (lv_at hl 3 rfl) ?_
  refine k_lh (As := [.ref (ad 0), .int (iI y0), .int (iI y1), .ref ao]) (rest := []) ⟨hx, hb, hml, hown, hts⟩ (l_repaid l hfl G ad cy hL.1.1 ao hL.2.1 fo σ (jj_cBd hJ) y0 y1 (by first | assumption | decide) (by first | assumption | decide)) (vx_cwSW 4 hts gL_law_L_repaid rfl rfl rfl (by decide +kernel) ⟨Nat.le_of_ble_eq_true rfl, Nat.le_of_ble_eq_true rfl⟩) hA hL hK hX hN3 hW hS rfl hl.1 rfl (Nat.le_of_ble_eq_true rfl) dL_law_1413 ⟨by omega, by omega⟩ (fun H locs fo hfo hW hS => ?_)
  refine lv_istore (lv' := [(5, .int (iI (hRes 3 (kRepaid σ y0 y1)))), (0, .ref b), (1, .ref (ad 0)), (2, .ref (adM 0)), (3, .ref ao), (4, .int (iI i))]) hx hb dL_law_1416 hl (by decide) rfl (fun ls hl => ?_)
  refine lv_aload_n hx hb dL_law_1418 rfl (lv_at hl 3 rfl) ?_
  refine lv_aload_n hx hb dL_law_1419 rfl (lv_at hl 1 rfl) ?_
  refine lv_iload hx hb dL_law_1420 (lv_at hl 5 rfl) ?_
  refine k_iconst hx hb dL_law_1422 ?_
  refine k_iadd hx hb dL_law_1423 ?_
  refine k_sld (x := i + 1) hx hb hX9 hbl hbA hS (by omega) (by omega) hL9 e0 dL_law_1424 ?_
  refine lv_aload_n hx hb dL_law_1425 rfl (lv_at hl 1 rfl) ?_
  refine lv_iload hx hb dL_law_1426 (lv_at hl 5 rfl) ?_
  refine k_iconst hx hb dL_law_1428 ?_
  refine k_iadd hx hb dL_law_1429 ?_
  refine k_sld (x := i + 2) hx hb hX9 hbl hbA hS (by omega) (by omega) hL9 e1 dL_law_1430 ?_
  have hT := t_repaid hJ y0 y1 (by first | assumption | decide) (by first | assumption | decide)
  refine k_lm (As := [.int (iI y0), .int (iI y1)]) (rest := []) ⟨hx, hb, hml, hown, hts⟩ (m_repaid l G adM cy hL.1.2 M y0 y1 (by first | assumption | decide) (by first | assumption | decide) (jj_mBd hJ)) (cwV 2 hts gL_law_X3_repaid rfl rfl rfl (by decide +kernel) ⟨Nat.le_of_ble_eq_true rfl, Nat.le_of_ble_eq_true rfl⟩) hA hL hK hW hS rfl hl.1 rfl (Nat.le_of_ble_eq_true rfl) dL_law_1431 ⟨by omega, by omega⟩ (fun H locs hW hS => ?_)
  refine lv_istore (lv' := [(6, .int (iI (rOf (qRepaid M y0 y1) (M 19 (5 * y0 + y1).toNat)))), (5, .int (iI (hRes 3 (kRepaid σ y0 y1)))), (0, .ref b), (1, .ref (ad 0)), (2, .ref (adM 0)), (3, .ref ao), (4, .int (iI i))]) hx hb dL_law_1434 hl (by decide) rfl (fun ls hl => ?_)
  refine lv_aload_n hx hb dL_law_1436 rfl (lv_at hl 4 rfl) ?_
  refine k_lm (As := []) (rest := []) ⟨hx, hb, hml, hown, hts⟩ (m_thrown l G adM cy hL.1.2 (tOf (qRepaid M y0 y1) M (up M 0 0 0))) (cwV 0 hts gL_law_X3_thrown rfl rfl rfl (by decide +kernel) ⟨Nat.le_of_ble_eq_true rfl, Nat.le_of_ble_eq_true rfl⟩) hA hL hK hW hS rfl hl.1 rfl (Nat.le_of_ble_eq_true rfl) dL_law_1437 ⟨by omega, by omega⟩ (fun H locs hW hS => ?_)
  refine lv_iload hx hb dL_law_1440 (lv_at hl 1 rfl) ?_
  refine lv_icmp_eq (tgt := 1447) hx hb dL_law_1442 (by decide) (fun _ => ?_) (fun c9 => absurd (by rw [hT.1.1]) c9)
  have J9 : W p l e room_1 s m #[Value.ref b] below meth cd H locs (cells + 2) (slots + 6 * 2) Q (F0 m 1464 ls []) := by
    refine lv_goto (tgt := 1523) hx hb dL_law_1464 (by decide) ?_
    refine W.widen (k := cells + 9) (n := slots + 54) (by omega) (by omega) ?_
    exact kk _ _ _ _ _ _ hT.2.2 hW hS (lv_sub hl [2, 3, 4, 5, 6] rfl)
  refine lv_iload hx hb dL_law_1447 (lv_at hl 1 rfl) ?_
  refine lv_if_ne (tgt := 1464) hx hb dL_law_1449 (by decide) (fun _ => J9) (fun c9 => ?_)
  have h0 : kRepaid σ y0 y1 = 0 := hRes_0 hT.1.2 (by decide) c9
  refine lv_aload_n hx hb dL_law_1452 rfl (lv_at hl 5 rfl) ?_
  refine k_iconst hx hb dL_law_1453 ?_
  refine k_old hx hb hK hW (hfo h0) dL_law_1454 ?_
  refine lv_iload hx hb dL_law_1455 (lv_at hl 0 rfl) ?_
  refine lv_i2l hx hb dL_law_1457 rfl ?_
  refine W.lcmp hx hb dL_law_1458 ?_
  refine lv_if_eq (tgt := 1464) hx hb dL_law_1459 (by decide) (fun _ => J9) (fun c9 => absurd ((lg_cmp_eq _ _).mpr (by rw [hT.2.1 h0])) c9)
set_option maxHeartbeats 4000000 in
set_option maxRecDepth 100000 in
theorem law_charged {p : Program} {l : Launch} {e : Env} {s : State} {m : MethodId} {below : List Frame} {meth : Method} {cd : Code} {b L : Nat} {xs : Nat → Int32} {Q : State → Prop} {G : va_G} {ad adM : Nat → Nat} {cy : Nat → ClassId} {ao : Nat} {A : Nat → Prop} (C : LwC p l s m cd b L xs G ad adM cy ao A) {σ M : Sg} {fo : Nat → Int64} {H : Heap} {locs : List Loc} {cells slots : Nat} {ls : Array Slot} {i : Int} (hJ : JJ σ M) (hW : LW G ad cy adM ao σ M fo H) (hS : va_S A s.heap H locs) (hl : lv_has ls 7 [(0, .ref b), (1, .ref (ad 0)), (2, .ref (adM 0)), (3, .ref ao), (4, .int (iI i))]) (hi0 : 0 ≤ i) (hi1 : i + 4 ≤ (L : Int)) (hc : cells + 9 ≤ room_1.cells) (hs : slots + 54 ≤ room_1.slots) (kk : ∀ (σ M : Sg) (fo : Nat → Int64) (H : Heap) (locs : List Loc) (ls : Array Slot), JJ σ M → LW G ad cy adM ao σ M fo H → va_S A s.heap H locs → lv_has ls 7 [(0, .ref b), (1, .ref (ad 0)), (2, .ref (adM 0)), (3, .ref ao), (4, .int (iI i))] → W p l e room_1 s m #[Value.ref b] below meth cd H locs (cells + 9) (slots + 54) Q (F0 m 1523 ls [])) : W p l e room_1 s m #[Value.ref b] below meth cd H locs cells slots Q (F0 m 1467 ls []) := by
  obtain ⟨⟨hx, hb, hml, hown, hts⟩, ⟨hX9, hbl, hbA, hL9⟩, hL, hA, hK, hX, hN3, hfl⟩ := C
  obtain ⟨y0, hy0, e0⟩ := iI_of (xs (i + 1).toNat)
  refine lv_aload_n hx hb dL_law_1467 rfl (lv_at hl 1 rfl) ?_
  refine lv_aload_n hx hb dL_law_1468 rfl (lv_at hl 0 rfl) ?_
  refine lv_iload hx hb dL_law_1469 (lv_at hl 4 rfl) ?_
  refine k_iconst hx hb dL_law_1471 ?_
  refine k_iadd hx hb dL_law_1472 ?_
  refine k_sld (x := i + 1) hx hb hX9 hbl hbA hS (by omega) (by omega) hL9 e0 dL_law_1473 ?_
  refine lv_aload_n hx hb dL_law_1474 rfl (lv_at hl 3 rfl) ?_
  refine k_lh (As := [.ref (ad 0), .int (iI y0), .ref ao]) (rest := []) ⟨hx, hb, hml, hown, hts⟩ (l_charged l hfl G ad cy hL.1.1 ao hL.2.1 fo σ (jj_cBd hJ) y0 (by first | assumption | decide)) (vx_cwSW 3 hts gL_law_L_charged rfl rfl rfl (by decide +kernel) ⟨Nat.le_of_ble_eq_true rfl, Nat.le_of_ble_eq_true rfl⟩) hA hL hK hX hN3 hW hS rfl hl.1 rfl (Nat.le_of_ble_eq_true rfl) dL_law_1475 ⟨by omega, by omega⟩ (fun H locs fo hfo hW hS => ?_)
  refine lv_istore (lv' := [(5, .int (iI (hRes 3 (cFarm σ y0)))), (0, .ref b), (1, .ref (ad 0)), (2, .ref (adM 0)), (3, .ref ao), (4, .int (iI i))]) hx hb dL_law_1478 hl (by decide) rfl (fun ls hl => ?_)
  refine lv_aload_n hx hb dL_law_1480 rfl (lv_at hl 3 rfl) ?_
  refine lv_aload_n hx hb dL_law_1481 rfl (lv_at hl 1 rfl) ?_
  refine lv_iload hx hb dL_law_1482 (lv_at hl 5 rfl) ?_
  refine k_iconst hx hb dL_law_1484 ?_
  refine k_iadd hx hb dL_law_1485 ?_
  refine k_sld (x := i + 1) hx hb hX9 hbl hbA hS (by omega) (by omega) hL9 e0 dL_law_1486 ?_
  have hT := t_charged hJ y0 (by first | assumption | decide)
  refine k_lm (As := [.int (iI y0)]) (rest := []) ⟨hx, hb, hml, hown, hts⟩ (m_charged l G adM cy hL.1.2 M y0 (by first | assumption | decide) (jj_mBd hJ)) (cwV 1 hts gL_law_X3_charged rfl rfl rfl (by decide +kernel) ⟨Nat.le_of_ble_eq_true rfl, Nat.le_of_ble_eq_true rfl⟩) hA hL hK hW hS rfl hl.1 rfl (Nat.le_of_ble_eq_true rfl) dL_law_1487 ⟨by omega, by omega⟩ (fun H locs hW hS => ?_)
  refine lv_istore (lv' := [(6, .int (iI (rOf (qFarm M y0) (M 20 y0.toNat)))), (5, .int (iI (hRes 3 (cFarm σ y0)))), (0, .ref b), (1, .ref (ad 0)), (2, .ref (adM 0)), (3, .ref ao), (4, .int (iI i))]) hx hb dL_law_1490 hl (by decide) rfl (fun ls hl => ?_)
  refine lv_aload_n hx hb dL_law_1492 rfl (lv_at hl 4 rfl) ?_
  refine k_lm (As := []) (rest := []) ⟨hx, hb, hml, hown, hts⟩ (m_thrown l G adM cy hL.1.2 (up M 0 0 (qFarm M y0))) (cwV 0 hts gL_law_X3_thrown rfl rfl rfl (by decide +kernel) ⟨Nat.le_of_ble_eq_true rfl, Nat.le_of_ble_eq_true rfl⟩) hA hL hK hW hS rfl hl.1 rfl (Nat.le_of_ble_eq_true rfl) dL_law_1493 ⟨by omega, by omega⟩ (fun H locs hW hS => ?_)
  refine lv_iload hx hb dL_law_1496 (lv_at hl 1 rfl) ?_
  refine lv_icmp_eq (tgt := 1503) hx hb dL_law_1498 (by decide) (fun _ => ?_) (fun c9 => absurd (by rw [hT.1.1]) c9)
  have J9 : W p l e room_1 s m #[Value.ref b] below meth cd H locs (cells + 1) (slots + 6 * 1) Q (F0 m 1520 ls []) := by
    refine lv_goto (tgt := 1523) hx hb dL_law_1520 (by decide) ?_
    refine W.widen (k := cells + 9) (n := slots + 54) (by omega) (by omega) ?_
    exact kk _ _ _ _ _ _ hT.2.2 hW hS (lv_sub hl [2, 3, 4, 5, 6] rfl)
  refine lv_iload hx hb dL_law_1503 (lv_at hl 1 rfl) ?_
  refine lv_if_ne (tgt := 1520) hx hb dL_law_1505 (by decide) (fun _ => J9) (fun c9 => ?_)
  have h0 : cFarm σ y0 = 0 := hRes_0 hT.1.2 (by decide) c9
  refine lv_aload_n hx hb dL_law_1508 rfl (lv_at hl 5 rfl) ?_
  refine k_iconst hx hb dL_law_1509 ?_
  refine k_old hx hb hK hW (hfo h0) dL_law_1510 ?_
  refine lv_iload hx hb dL_law_1511 (lv_at hl 0 rfl) ?_
  refine lv_i2l hx hb dL_law_1513 rfl ?_
  refine W.lcmp hx hb dL_law_1514 ?_
  refine lv_if_eq (tgt := 1520) hx hb dL_law_1515 (by decide) (fun _ => J9) (fun c9 => absurd ((lg_cmp_eq _ _).mpr (by rw [hT.2.1 h0])) c9)
set_option maxHeartbeats 4000000 in
set_option maxRecDepth 100000 in
theorem law_loop {p : Program} {l : Launch} {e : Env} {s : State} {m : MethodId} {below : List Frame} {meth : Method} {cd : Code} {b L : Nat} {xs : Nat → Int32} {G : va_G} {ad adM : Nat → Nat} {cy : Nat → ClassId} {ao : Nat} {A : Nat → Prop} (C : LwC p l s m cd b L xs G ad adM cy ao A) (hr : meth.sig.returnType = ret) (hlk : meth.locks = false) (hA2 : ∀ q, A q → s.heap.size ≤ q) : ∀ (d : Nat) {σ M : Sg} {fo : Nat → Int64} {H : Heap} {locs : List Loc} {cells slots : Nat} {ls : Array Slot} {i : Int}, JJ σ M → LW G ad cy adM ao σ M fo H → va_S A s.heap H locs → lv_has ls 7 [(0, .ref b), (1, .ref (ad 0)), (2, .ref (adM 0)), (3, .ref ao), (4, .int (iI i))] → 0 ≤ i → (L : Int) < i + 4 * d + 4 → i ≤ 2048 → cells + 9 * d + 9 ≤ 652980 → slots + 54 * d + 54 ≤ 7137165 → W p l e room_1 s m #[Value.ref b] below meth cd H locs cells slots (lw_Z below #[Value.ref b] s) (F0 m 23 ls []) := by
  have C9 := C
  obtain ⟨⟨hx, hb, hml, hown, hts⟩, ⟨hX9, hbl, hbA, hL9⟩, hL, hA, hK, hX, hN3, hfl⟩ := C9
  intro d
  induction d with
  | zero =>
    intro σ M fo H locs cells slots ls i hJ hW hS hl hi0 hi1 hi2 hc hs
    refine lv_iload hx hb dL_law_23 (lv_at hl 4 rfl) ?_
    refine lv_aload_n hx hb dL_law_25 rfl (lv_at hl 0 rfl) ?_
    refine k_slen hx hb hX9 hbl hbA hS dL_law_26 ?_
    refine k_iconst hx hb dL_law_27 ?_
    refine k_isub hx hb dL_law_28 ?_
    refine k_icmp_gt (tgt := 1529) hx hb dL_law_29 (by decide) (by omega) (by omega) (fun c_1 => ?_) (fun c_1 => absurd c_1 (by omega))
    refine k_iconst hx hb dL_law_1529 ?_
    refine va_forget (fun q hq => hA2 _ (hS.2.2 q hq)) ?_
    refine W.widen (k := 652980) (n := 7137165) (by omega) (by omega) ?_
    exact lw_ret hx hb hr hlk dL_law_1530
  | succ d ih =>
    intro σ M fo H locs cells slots ls i hJ hW hS hl hi0 hi1 hi2 hc hs
    refine lv_iload hx hb dL_law_23 (lv_at hl 4 rfl) ?_
    refine lv_aload_n hx hb dL_law_25 rfl (lv_at hl 0 rfl) ?_
    refine k_slen hx hb hX9 hbl hbA hS dL_law_26 ?_
    refine k_iconst hx hb dL_law_27 ?_
    refine k_isub hx hb dL_law_28 ?_
    refine k_icmp_gt (tgt := 1529) hx hb dL_law_29 (by decide) (by omega) (by omega) (fun c_1 => ?_) (fun c_1 => ?_)
    · refine k_iconst hx hb dL_law_1529 ?_
      refine va_forget (fun q hq => hA2 _ (hS.2.2 q hq)) ?_
      refine W.widen (k := 652980) (n := 7137165) (by omega) (by omega) ?_
      exact lw_ret hx hb hr hlk dL_law_1530
    have hi3 : i + 4 ≤ (L : Int) := by omega
    have hc9 : cells + 9 ≤ room_1.cells := by show _ ≤ 652980; omega
    have hs9 : slots + 54 ≤ room_1.slots := by show _ ≤ 7137165; omega
    have kk : ∀ (σ M : Sg) (fo : Nat → Int64) (H : Heap) (locs : List Loc) (ls : Array Slot), JJ σ M → LW G ad cy adM ao σ M fo H → va_S A s.heap H locs → lv_has ls 7 [(0, .ref b), (1, .ref (ad 0)), (2, .ref (adM 0)), (3, .ref ao), (4, .int (iI i))] → W p l e room_1 s m #[Value.ref b] below meth cd H locs (cells + 9) (slots + 54) (lw_Z below #[Value.ref b] s) (F0 m 1523 ls []) := fun σ M fo H locs ls hJ hW hS hl => by
      refine lv_iinc (v := iI (i + 4)) (lv' := [(4, .int (iI (i + 4))), (0, .ref b), (1, .ref (ad 0)), (2, .ref (adM 0)), (3, .ref ao)]) hx hb dL_law_1523 hl (k := 4) rfl (iI_add _ _) (by decide) rfl (fun ls hl => ?_)
      refine lv_goto (tgt := 23) hx hb dL_law_1526 (by decide) ?_
      exact ih hJ hW hS (lv_sub hl [1, 2, 3, 4, 0] rfl) (by omega) (by omega) (by omega) (by omega) (by omega)
    obtain ⟨y, hy, e0⟩ := iI_of (xs i.toNat)
    refine lv_aload_n hx hb dL_law_32 rfl (lv_at hl 0 rfl) ?_
    refine lv_iload hx hb dL_law_33 (lv_at hl 4 rfl) ?_
    refine k_sld hx hb hX9 hbl hbA hS (by omega) (by omega) hL9 e0 dL_law_35 ?_
    refine k_bipush hx hb dL_law_36 (by decide) ?_
    refine lv_iand hx hb dL_law_38 ?_
    obtain ⟨t, ht, e1⟩ := pk_andE (iI y) (m := iI 31) 5 (by decide)
    rw [e1]
    have ht2 : (nI t).toInt = (t : Int) := by rw [show nI t = iI (t : Int) from Int32.ofInt_eq_ofNat.symm]; exact iI_T ⟨by omega, by omega⟩
    by_cases h24 : t < 24
    · rcases (by omega : t = 0 ∨ t = 1 ∨ t = 2 ∨ t = 3 ∨ t = 4 ∨ t = 5 ∨ t = 6 ∨ t = 7 ∨ t = 8 ∨ t = 9 ∨ t = 10 ∨ t = 11 ∨ t = 12 ∨ t = 13 ∨ t = 14 ∨ t = 15 ∨ t = 16 ∨ t = 17 ∨ t = 18 ∨ t = 19 ∨ t = 20 ∨ t = 21 ∨ t = 22 ∨ t = 23) with rfl | rfl | rfl | rfl | rfl | rfl | rfl | rfl | rfl | rfl | rfl | rfl | rfl | rfl | rfl | rfl | rfl | rfl | rfl | rfl | rfl | rfl | rfl | rfl
      · refine lv_tableIn (off := 109) (tgt := 148) hx hb dL_law_39 (by rw [ht2]; decide) (by rw [ht2]; decide) (by rw [ht2]; rfl) (by decide) ?_
        exact law_setNeed C hJ hW hS hl hi0 hi3 hc9 hs9 kk
      · refine lv_tableIn (off := 189) (tgt := 228) hx hb dL_law_39 (by rw [ht2]; decide) (by rw [ht2]; decide) (by rw [ht2]; rfl) (by decide) ?_
        exact law_setCrop C hJ hW hS hl hi0 hi3 hc9 hs9 kk
      · refine lv_tableIn (off := 269) (tgt := 308) hx hb dL_law_39 (by rw [ht2]; decide) (by rw [ht2]; decide) (by rw [ht2]; rfl) (by decide) ?_
        exact law_add C hJ hW hS hl hi0 hi3 hc9 hs9 kk
      · refine lv_tableIn (off := 325) (tgt := 364) hx hb dL_law_39 (by rw [ht2]; decide) (by rw [ht2]; decide) (by rw [ht2]; rfl) (by decide) ?_
        exact law_farmers C hJ hW hS hl hi0 hi3 hc9 hs9 kk
      · refine lv_tableIn (off := 338) (tgt := 377) hx hb dL_law_39 (by rw [ht2]; decide) (by rw [ht2]; decide) (by rw [ht2]; rfl) (by decide) ?_
        exact law_plant C hJ hW hS hl hi0 hi3 hc9 hs9 kk
      · refine lv_tableIn (off := 418) (tgt := 457) hx hb dL_law_39 (by rw [ht2]; decide) (by rw [ht2]; decide) (by rw [ht2]; rfl) (by decide) ?_
        exact law_cover C hJ hW hS hl hi0 hi3 hc9 hs9 kk
      · refine lv_tableIn (off := 486) (tgt := 525) hx hb dL_law_39 (by rw [ht2]; decide) (by rw [ht2]; decide) (by rw [ht2]; rfl) (by decide) ?_
        exact law_draw C hJ hW hS hl hi0 hi3 hc9 hs9 kk
      · refine lv_tableIn (off := 554) (tgt := 593) hx hb dL_law_39 (by rw [ht2]; decide) (by rw [ht2]; decide) (by rw [ht2]; rfl) (by decide) ?_
        exact law_setYield C hJ hW hS hl hi0 hi3 hc9 hs9 kk
      · refine lv_tableIn (off := 622) (tgt := 661) hx hb dL_law_39 (by rw [ht2]; decide) (by rw [ht2]; decide) (by rw [ht2]; rfl) (by decide) ?_
        exact law_next C hJ hW hS hl hi0 hi3 hc9 hs9 kk
      · refine lv_tableIn (off := 666) (tgt := 705) hx hb dL_law_39 (by rw [ht2]; decide) (by rw [ht2]; decide) (by rw [ht2]; rfl) (by decide) ?_
        exact law_pledge C hJ hW hS hl hi0 hi3 hc9 hs9 kk
      · refine lv_tableIn (off := 734) (tgt := 773) hx hb dL_law_39 (by rw [ht2]; decide) (by rw [ht2]; decide) (by rw [ht2]; rfl) (by decide) ?_
        exact law_sell C hJ hW hS hl hi0 hi3 hc9 hs9 kk
      · refine lv_tableIn (off := 802) (tgt := 841) hx hb dL_law_39 (by rw [ht2]; decide) (by rw [ht2]; decide) (by rw [ht2]; rfl) (by decide) ?_
        exact law_repay C hJ hW hS hl hi0 hi3 hc9 hs9 kk
      · refine lv_tableIn (off := 870) (tgt := 909) hx hb dL_law_39 (by rw [ht2]; decide) (by rw [ht2]; decide) (by rw [ht2]; rfl) (by decide) ?_
        exact law_close C hJ hW hS hl hi0 hi3 hc9 hs9 kk
      · refine lv_tableIn (off := 914) (tgt := 953) hx hb dL_law_39 (by rw [ht2]; decide) (by rw [ht2]; decide) (by rw [ht2]; rfl) (by decide) ?_
        exact law_season C hJ hW hS hl hi0 hi3 hc9 hs9 kk
      · refine lv_tableIn (off := 927) (tgt := 966) hx hb dL_law_39 (by rw [ht2]; decide) (by rw [ht2]; decide) (by rw [ht2]; rfl) (by decide) ?_
        exact law_stage C hJ hW hS hl hi0 hi3 hc9 hs9 kk
      · refine lv_tableIn (off := 940) (tgt := 979) hx hb dL_law_39 (by rw [ht2]; decide) (by rw [ht2]; decide) (by rw [ht2]; rfl) (by decide) ?_
        exact law_limit C hJ hW hS hl hi0 hi3 hc9 hs9 kk
      · refine lv_tableIn (off := 996) (tgt := 1035) hx hb dL_law_39 (by rw [ht2]; decide) (by rw [ht2]; decide) (by rw [ht2]; rfl) (by decide) ?_
        exact law_debt C hJ hW hS hl hi0 hi3 hc9 hs9 kk
      · refine lv_tableIn (off := 1052) (tgt := 1091) hx hb dL_law_39 (by rw [ht2]; decide) (by rw [ht2]; decide) (by rw [ht2]; rfl) (by decide) ?_
        exact law_owes C hJ hW hS hl hi0 hi3 hc9 hs9 kk
      · refine lv_tableIn (off := 1108) (tgt := 1147) hx hb dL_law_39 (by rw [ht2]; decide) (by rw [ht2]; decide) (by rw [ht2]; rfl) (by decide) ?_
        exact law_instalments C hJ hW hS hl hi0 hi3 hc9 hs9 kk
      · refine lv_tableIn (off := 1164) (tgt := 1203) hx hb dL_law_39 (by rw [ht2]; decide) (by rw [ht2]; decide) (by rw [ht2]; rfl) (by decide) ?_
        exact law_purse C hJ hW hS hl hi0 hi3 hc9 hs9 kk
      · refine lv_tableIn (off := 1220) (tgt := 1259) hx hb dL_law_39 (by rw [ht2]; decide) (by rw [ht2]; decide) (by rw [ht2]; rfl) (by decide) ?_
        exact law_grain C hJ hW hS hl hi0 hi3 hc9 hs9 kk
      · refine lv_tableIn (off := 1304) (tgt := 1343) hx hb dL_law_39 (by rw [ht2]; decide) (by rw [ht2]; decide) (by rw [ht2]; rfl) (by decide) ?_
        exact law_called C hJ hW hS hl hi0 hi3 hc9 hs9 kk
      · refine lv_tableIn (off := 1360) (tgt := 1399) hx hb dL_law_39 (by rw [ht2]; decide) (by rw [ht2]; decide) (by rw [ht2]; rfl) (by decide) ?_
        exact law_repaid C hJ hW hS hl hi0 hi3 hc9 hs9 kk
      · refine lv_tableIn (off := 1428) (tgt := 1467) hx hb dL_law_39 (by rw [ht2]; decide) (by rw [ht2]; decide) (by rw [ht2]; rfl) (by decide) ?_
        exact law_charged C hJ hW hS hl hi0 hi3 hc9 hs9 kk
    · refine lv_tableOut (tgt := 1523) hx hb dL_law_39 (Or.inr (by rw [ht2]; omega)) (by decide) ?_
      refine W.widen (k := cells + 9) (n := slots + 54) (by omega) (by omega) ?_
      exact kk _ _ _ _ _ _ hJ hW hS hl
