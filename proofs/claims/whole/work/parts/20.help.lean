set_option maxHeartbeats 4000000 in
set_option maxRecDepth 100000 in
theorem l_setNeed (l : Launch) (hfl : l.stackTraces = false) (G : va_G) (ad : Nat → Nat) (cy : Nat → ClassId) (hI : cI ad) (ao : Nat) (hao : ∀ j, j < 33 → ao ≠ ad j) (fo : Nat → Int64) (σ : Sg) (hB : cBd σ) (c x v : Int) (hc : nB c) (hx : nB x) (hv : nB v) : lM l yL_setNeed wsL_setNeed ({ frames := 8, cells := 2, slots := 12, locals := 131 } : Room) G ad cy ao fo [.ref (ad 0), .int (iI c), .int (iI x), .int (iI v), .ref ao] σ (kSetNeed c x v) 3 (σ (6 + c.toNat) x.toNat) (up σ (6 + c.toNat) x.toNat v) 2 := by
  intro sz
  refine va_MetW (cc := cL_setNeed) (maxL := 6) (ret := (some .int)) (hh := [(0, 12, 15, 13), (0, 12, 19, 15)]) (by decide) rfl ?_
  intro p e s m args below meth cd s₁ B hml hv
  obtain ⟨rfl, hsz, hP, hO, hK, hX, hN3⟩ := hv
  have hx := B.exec
  have hb := B.bytes
  have hr := B.returns
  have hts := atoms_spec (ws := wsL_setNeed) B.pre
  have hown : s.vm.findClass RL = some m.cls := findClass_of_methodNamed B.named
  have hlocks := B.notSynchronized
  subst hsz
  have htab := vx_table (x := yL_setNeed) B (hts _ List.mem_cons_self)
  have hS : va_S (oA ad ao s.heap.size) s.heap s.heap [] := va_S.rf
  have hA : ∀ q, s.heap.size ≤ q → oA ad ao s.heap.size q := fun _ h => Or.inr (Or.inr h)
  have hAc : ∀ j, j < 33 → oA ad ao s.heap.size (ad j) := fun j h => Or.inl ⟨j, h, rfl⟩
  have hAo : oA ad ao s.heap.size ao := Or.inr (Or.inl rfl)
  have hl := lv_entry ([.ref (ad 0), .int (iI c), .int (iI x), .int (iI v), .ref ao]) (n := 6) (Nat.le_of_ble_eq_true rfl)
  rw [lg_entry_eq]
  generalize (lg_sl ([.ref (ad 0), .int (iI c), .int (iI x), .int (iI v), .ref ao]) ++ List.replicate (6 - (lg_sl ([.ref (ad 0), .int (iI c), .int (iI x), .int (iI v), .ref ao])).length) Slot.unset).toArray = ls at hl ⊢
  have hl : lv_has ls 6 [(0, .ref (ad 0)), (1, .int (iI c)), (2, .int (iI x)), (3, .int (iI v)), (4, .ref ao)] := hl
  have lknIO := hts (.classLink RL 13 nIO) (by decide +kernel)
  have lknIA := hts (.classLink RL 15 nIA) (by decide +kernel)
  refine lv_aload hx hb dL_setNeed_0 (lv_at hl 4 rfl) ?_
  refine k_iconst hx hb dL_setNeed_2 ?_
  refine lv_aload_n hx hb dL_setNeed_3 rfl (lv_at hl 0 rfl) ?_
  refine lv_iload_n hx hb dL_setNeed_4 rfl (lv_at hl 1 rfl) ?_
  refine lv_iload_n hx hb dL_setNeed_5 rfl (lv_at hl 2 rfl) ?_
  refine lv_iload_n hx hb dL_setNeed_6 rfl (lv_at hl 3 rfl) ?_
  refine k_hxi (As := [.int (iI c), .int (iI x), .int (iI v)]) (rest := [.int (iI 0), .ref ao]) ⟨hx, hb, hml, hown, hts⟩ (h_setNeed l hfl G ad cy hI σ hB c x v (by assumption) (by assumption) (by assumption)) (cwV 3 hts gL_setNeed_X2_setNeed rfl rfl rfl (by decide +kernel) ⟨Nat.le_of_ble_eq_true rfl, Nat.le_of_ble_eq_true rfl⟩) hAc hA hK hX hao hP hO hS rfl hl.1 rfl (Nat.le_of_ble_eq_true rfl) dL_setNeed_7 ⟨Nat.le_of_ble_eq_true rfl, Nat.le_of_ble_eq_true rfl⟩ (fun E ce q9 H locs hN hP hO hS e1 e2 e3 => ?_) (fun h0 H locs hP hO hS => ?_)
  · rcases hN with ⟨hc, rfl⟩ | ⟨hc, rfl⟩ | ⟨hc, rfl⟩
    · refine vx_catch (name := nIO) hown [] ⟨0, 12, 15, 13⟩ [⟨0, 12, 19, 15⟩] (htab.trans rfl) (fun z h => absurd h List.not_mem_nil) (by decide) (by decide) lknIO (xB_use hX.2.1 (.castable nIO nIO) (by decide +kernel)) e1 e2 e3 ?_
      refine lv_astore (lv' := [(5, .ref q9), (0, .ref (ad 0)), (1, .int (iI c)), (2, .int (iI x)), (3, .int (iI v)), (4, .ref ao)]) hx hb dL_setNeed_15 hl (by decide) rfl (fun ls hl => ?_)
      refine k_iconst hx hb dL_setNeed_17 ?_
      refine W.widen (k := 2) (n := 6 * 2) (Nat.le_of_ble_eq_true rfl) (Nat.le_of_ble_eq_true rfl) ?_
      exact W.iret hx hb hr (fun t ht hW => ⟨⟨_, (σ, fo), rfl, ⟨by rw [hc]; rfl, by rw [hc]; rfl, fun h => absurd (hc.symm.trans h) (by decide)⟩, by rw [ht]; exact hP, by rw [ht]; exact hO, va_K.moved hW.alike hK⟩, hS.F ht⟩) hS.2.2 dL_setNeed_18
    · refine vx_catch (name := nIA) hown [⟨0, 12, 15, 13⟩] ⟨0, 12, 19, 15⟩ [] (htab.trans rfl) (List.forall_mem_cons.mpr ⟨Or.inr ⟨by decide, nIO, lknIO, hN3.1⟩, (fun _ h => absurd h List.not_mem_nil)⟩) (by decide) (by decide) lknIA (xB_use hX.2.1 (.castable nIA nIA) (by decide +kernel)) e1 e2 e3 ?_
      refine lv_astore (lv' := [(5, .ref q9), (0, .ref (ad 0)), (1, .int (iI c)), (2, .int (iI x)), (3, .int (iI v)), (4, .ref ao)]) hx hb dL_setNeed_19 hl (by decide) rfl (fun ls hl => ?_)
      refine k_iconst hx hb dL_setNeed_21 ?_
      refine W.widen (k := 2) (n := 6 * 2) (Nat.le_of_ble_eq_true rfl) (Nat.le_of_ble_eq_true rfl) ?_
      exact W.iret hx hb hr (fun t ht hW => ⟨⟨_, (σ, fo), rfl, ⟨by rw [hc]; rfl, by rw [hc]; rfl, fun h => absurd (hc.symm.trans h) (by decide)⟩, by rw [ht]; exact hP, by rw [ht]; exact hO, va_K.moved hW.alike hK⟩, hS.F ht⟩) hS.2.2 dL_setNeed_22
    · exact absurd hc (n_setNeed _ _ _)
  · refine lv_i2l hx hb dL_setNeed_10 rfl ?_
    refine k_ost hx hb hAo hao hK hP hO hS hI hAc dL_setNeed_11 (fun H locs fo hfo hP hO hS => ?_)
    refine lv_goto (tgt := 23) hx hb dL_setNeed_12 (by decide) ?_
    refine k_iconst hx hb dL_setNeed_23 ?_
    refine W.widen (k := 2) (n := 6 * 2) (Nat.le_of_ble_eq_true rfl) (Nat.le_of_ble_eq_true rfl) ?_
    exact W.iret hx hb hr (fun t ht hW => ⟨⟨_, (up σ (6 + c.toNat) x.toNat v, fo), rfl, ⟨by rw [h0]; rfl, by rw [h0, hSt, if_pos rfl], fun _ => hfo⟩, by rw [ht]; exact hP, by rw [ht]; exact hO, va_K.moved hW.alike hK⟩, hS.F ht⟩) hS.2.2 dL_setNeed_24
set_option maxHeartbeats 4000000 in
set_option maxRecDepth 100000 in
theorem l_setCrop (l : Launch) (hfl : l.stackTraces = false) (G : va_G) (ad : Nat → Nat) (cy : Nat → ClassId) (hI : cI ad) (ao : Nat) (hao : ∀ j, j < 33 → ao ≠ ad j) (fo : Nat → Int64) (σ : Sg) (hB : cBd σ) (c x v : Int) (hc : nB c) (hx : nB x) (hv : nB v) : lM l yL_setCrop wsL_setCrop ({ frames := 8, cells := 3, slots := 18, locals := 131 } : Room) G ad cy ao fo [.ref (ad 0), .int (iI c), .int (iI x), .int (iI v), .ref ao] σ (kSetCrop c x v) 3 (σ (3 + c.toNat) 1) (up (up σ (3 + c.toNat) 1 x) (3 + c.toNat) 2 v) 3 := by
  intro sz
  refine va_MetW (cc := cL_setCrop) (maxL := 6) (ret := (some .int)) (hh := [(0, 12, 15, 13), (0, 12, 19, 15)]) (by decide) rfl ?_
  intro p e s m args below meth cd s₁ B hml hv
  obtain ⟨rfl, hsz, hP, hO, hK, hX, hN3⟩ := hv
  have hx := B.exec
  have hb := B.bytes
  have hr := B.returns
  have hts := atoms_spec (ws := wsL_setCrop) B.pre
  have hown : s.vm.findClass RL = some m.cls := findClass_of_methodNamed B.named
  have hlocks := B.notSynchronized
  subst hsz
  have htab := vx_table (x := yL_setCrop) B (hts _ List.mem_cons_self)
  have hS : va_S (oA ad ao s.heap.size) s.heap s.heap [] := va_S.rf
  have hA : ∀ q, s.heap.size ≤ q → oA ad ao s.heap.size q := fun _ h => Or.inr (Or.inr h)
  have hAc : ∀ j, j < 33 → oA ad ao s.heap.size (ad j) := fun j h => Or.inl ⟨j, h, rfl⟩
  have hAo : oA ad ao s.heap.size ao := Or.inr (Or.inl rfl)
  have hl := lv_entry ([.ref (ad 0), .int (iI c), .int (iI x), .int (iI v), .ref ao]) (n := 6) (Nat.le_of_ble_eq_true rfl)
  rw [lg_entry_eq]
  generalize (lg_sl ([.ref (ad 0), .int (iI c), .int (iI x), .int (iI v), .ref ao]) ++ List.replicate (6 - (lg_sl ([.ref (ad 0), .int (iI c), .int (iI x), .int (iI v), .ref ao])).length) Slot.unset).toArray = ls at hl ⊢
  have hl : lv_has ls 6 [(0, .ref (ad 0)), (1, .int (iI c)), (2, .int (iI x)), (3, .int (iI v)), (4, .ref ao)] := hl
  have lknIO := hts (.classLink RL 13 nIO) (by decide +kernel)
  have lknIA := hts (.classLink RL 15 nIA) (by decide +kernel)
  refine lv_aload hx hb dL_setCrop_0 (lv_at hl 4 rfl) ?_
  refine k_iconst hx hb dL_setCrop_2 ?_
  refine lv_aload_n hx hb dL_setCrop_3 rfl (lv_at hl 0 rfl) ?_
  refine lv_iload_n hx hb dL_setCrop_4 rfl (lv_at hl 1 rfl) ?_
  refine lv_iload_n hx hb dL_setCrop_5 rfl (lv_at hl 2 rfl) ?_
  refine lv_iload_n hx hb dL_setCrop_6 rfl (lv_at hl 3 rfl) ?_
  refine k_hxi (As := [.int (iI c), .int (iI x), .int (iI v)]) (rest := [.int (iI 0), .ref ao]) ⟨hx, hb, hml, hown, hts⟩ (h_setCrop l hfl G ad cy hI σ hB c x v (by assumption) (by assumption) (by assumption)) (cwV 3 hts gL_setCrop_X2_setCrop rfl rfl rfl (by decide +kernel) ⟨Nat.le_of_ble_eq_true rfl, Nat.le_of_ble_eq_true rfl⟩) hAc hA hK hX hao hP hO hS rfl hl.1 rfl (Nat.le_of_ble_eq_true rfl) dL_setCrop_7 ⟨Nat.le_of_ble_eq_true rfl, Nat.le_of_ble_eq_true rfl⟩ (fun E ce q9 H locs hN hP hO hS e1 e2 e3 => ?_) (fun h0 H locs hP hO hS => ?_)
  · rcases hN with ⟨hc, rfl⟩ | ⟨hc, rfl⟩ | ⟨hc, rfl⟩
    · refine vx_catch (name := nIO) hown [] ⟨0, 12, 15, 13⟩ [⟨0, 12, 19, 15⟩] (htab.trans rfl) (fun z h => absurd h List.not_mem_nil) (by decide) (by decide) lknIO (xB_use hX.2.1 (.castable nIO nIO) (by decide +kernel)) e1 e2 e3 ?_
      refine lv_astore (lv' := [(5, .ref q9), (0, .ref (ad 0)), (1, .int (iI c)), (2, .int (iI x)), (3, .int (iI v)), (4, .ref ao)]) hx hb dL_setCrop_15 hl (by decide) rfl (fun ls hl => ?_)
      refine k_iconst hx hb dL_setCrop_17 ?_
      refine W.widen (k := 3) (n := 6 * 3) (Nat.le_of_ble_eq_true rfl) (Nat.le_of_ble_eq_true rfl) ?_
      exact W.iret hx hb hr (fun t ht hW => ⟨⟨_, (σ, fo), rfl, ⟨by rw [hc]; rfl, by rw [hc]; rfl, fun h => absurd (hc.symm.trans h) (by decide)⟩, by rw [ht]; exact hP, by rw [ht]; exact hO, va_K.moved hW.alike hK⟩, hS.F ht⟩) hS.2.2 dL_setCrop_18
    · refine vx_catch (name := nIA) hown [⟨0, 12, 15, 13⟩] ⟨0, 12, 19, 15⟩ [] (htab.trans rfl) (List.forall_mem_cons.mpr ⟨Or.inr ⟨by decide, nIO, lknIO, hN3.1⟩, (fun _ h => absurd h List.not_mem_nil)⟩) (by decide) (by decide) lknIA (xB_use hX.2.1 (.castable nIA nIA) (by decide +kernel)) e1 e2 e3 ?_
      refine lv_astore (lv' := [(5, .ref q9), (0, .ref (ad 0)), (1, .int (iI c)), (2, .int (iI x)), (3, .int (iI v)), (4, .ref ao)]) hx hb dL_setCrop_19 hl (by decide) rfl (fun ls hl => ?_)
      refine k_iconst hx hb dL_setCrop_21 ?_
      refine W.widen (k := 3) (n := 6 * 3) (Nat.le_of_ble_eq_true rfl) (Nat.le_of_ble_eq_true rfl) ?_
      exact W.iret hx hb hr (fun t ht hW => ⟨⟨_, (σ, fo), rfl, ⟨by rw [hc]; rfl, by rw [hc]; rfl, fun h => absurd (hc.symm.trans h) (by decide)⟩, by rw [ht]; exact hP, by rw [ht]; exact hO, va_K.moved hW.alike hK⟩, hS.F ht⟩) hS.2.2 dL_setCrop_22
    · exact absurd hc (n_setCrop _ _ _)
  · refine lv_i2l hx hb dL_setCrop_10 rfl ?_
    refine k_ost hx hb hAo hao hK hP hO hS hI hAc dL_setCrop_11 (fun H locs fo hfo hP hO hS => ?_)
    refine lv_goto (tgt := 23) hx hb dL_setCrop_12 (by decide) ?_
    refine k_iconst hx hb dL_setCrop_23 ?_
    refine W.widen (k := 3) (n := 6 * 3) (Nat.le_of_ble_eq_true rfl) (Nat.le_of_ble_eq_true rfl) ?_
    exact W.iret hx hb hr (fun t ht hW => ⟨⟨_, (up (up σ (3 + c.toNat) 1 x) (3 + c.toNat) 2 v, fo), rfl, ⟨by rw [h0]; rfl, by rw [h0, hSt, if_pos rfl], fun _ => hfo⟩, by rw [ht]; exact hP, by rw [ht]; exact hO, va_K.moved hW.alike hK⟩, hS.F ht⟩) hS.2.2 dL_setCrop_24
set_option maxHeartbeats 4000000 in
set_option maxRecDepth 100000 in
theorem l_add (l : Launch) (hfl : l.stackTraces = false) (G : va_G) (ad : Nat → Nat) (cy : Nat → ClassId) (hI : cI ad) (ao : Nat) (hao : ∀ j, j < 33 → ao ≠ ad j) (fo : Nat → Int64) (σ : Sg) (hB : cBd σ) (g : Int) (hg : nB g) : lM l yL_add wsL_add ({ frames := 8, cells := 2, slots := 12, locals := 126 } : Room) G ad cy ao fo [.ref (ad 0), .int (iI g), .ref ao] σ (kAdd σ g) 2 (σ 0 2) (up (up σ (9 + (σ 0 2).toNat) 0 g) 0 2 ((σ 0 2) + 1)) 2 := by
  intro sz
  refine va_MetW (cc := cL_add) (maxL := 4) (ret := (some .int)) (hh := [(0, 9, 12, 13), (0, 9, 15, 24)]) (by decide) rfl ?_
  intro p e s m args below meth cd s₁ B hml hv
  obtain ⟨rfl, hsz, hP, hO, hK, hX, hN3⟩ := hv
  have hx := B.exec
  have hb := B.bytes
  have hr := B.returns
  have hts := atoms_spec (ws := wsL_add) B.pre
  have hown : s.vm.findClass RL = some m.cls := findClass_of_methodNamed B.named
  have hlocks := B.notSynchronized
  subst hsz
  have htab := vx_table (x := yL_add) B (hts _ List.mem_cons_self)
  have hS : va_S (oA ad ao s.heap.size) s.heap s.heap [] := va_S.rf
  have hA : ∀ q, s.heap.size ≤ q → oA ad ao s.heap.size q := fun _ h => Or.inr (Or.inr h)
  have hAc : ∀ j, j < 33 → oA ad ao s.heap.size (ad j) := fun j h => Or.inl ⟨j, h, rfl⟩
  have hAo : oA ad ao s.heap.size ao := Or.inr (Or.inl rfl)
  have hl := lv_entry ([.ref (ad 0), .int (iI g), .ref ao]) (n := 4) (Nat.le_of_ble_eq_true rfl)
  rw [lg_entry_eq]
  generalize (lg_sl ([.ref (ad 0), .int (iI g), .ref ao]) ++ List.replicate (4 - (lg_sl ([.ref (ad 0), .int (iI g), .ref ao])).length) Slot.unset).toArray = ls at hl ⊢
  have hl : lv_has ls 4 [(0, .ref (ad 0)), (1, .int (iI g)), (2, .ref ao)] := hl
  have lknIO := hts (.classLink RL 13 nIO) (by decide +kernel)
  have lknIS := hts (.classLink RL 24 nIS) (by decide +kernel)
  refine lv_aload_n hx hb dL_add_0 rfl (lv_at hl 2 rfl) ?_
  refine k_iconst hx hb dL_add_1 ?_
  refine lv_aload_n hx hb dL_add_2 rfl (lv_at hl 0 rfl) ?_
  refine lv_iload_n hx hb dL_add_3 rfl (lv_at hl 1 rfl) ?_
  refine k_hxi (As := [.int (iI g)]) (rest := [.int (iI 0), .ref ao]) ⟨hx, hb, hml, hown, hts⟩ (h_add l hfl G ad cy hI σ hB g (by assumption)) (cwV 1 hts gL_add_X2_add rfl rfl rfl (by decide +kernel) ⟨Nat.le_of_ble_eq_true rfl, Nat.le_of_ble_eq_true rfl⟩) hAc hA hK hX hao hP hO hS rfl hl.1 rfl (Nat.le_of_ble_eq_true rfl) dL_add_4 ⟨Nat.le_of_ble_eq_true rfl, Nat.le_of_ble_eq_true rfl⟩ (fun E ce q9 H locs hN hP hO hS e1 e2 e3 => ?_) (fun h0 H locs hP hO hS => ?_)
  · rcases hN with ⟨hc, rfl⟩ | ⟨hc, rfl⟩ | ⟨hc, rfl⟩
    · refine vx_catch (name := nIO) hown [] ⟨0, 9, 12, 13⟩ [⟨0, 9, 15, 24⟩] (htab.trans rfl) (fun z h => absurd h List.not_mem_nil) (by decide) (by decide) lknIO (xB_use hX.2.1 (.castable nIO nIO) (by decide +kernel)) e1 e2 e3 ?_
      refine lv_astore_n (lv' := [(3, .ref q9), (0, .ref (ad 0)), (1, .int (iI g)), (2, .ref ao)]) hx hb dL_add_12 rfl hl (by decide) rfl (fun ls hl => ?_)
      refine k_iconst hx hb dL_add_13 ?_
      refine W.widen (k := 2) (n := 6 * 2) (Nat.le_of_ble_eq_true rfl) (Nat.le_of_ble_eq_true rfl) ?_
      exact W.iret hx hb hr (fun t ht hW => ⟨⟨_, (σ, fo), rfl, ⟨by rw [hc]; rfl, by rw [hc]; rfl, fun h => absurd (hc.symm.trans h) (by decide)⟩, by rw [ht]; exact hP, by rw [ht]; exact hO, va_K.moved hW.alike hK⟩, hS.F ht⟩) hS.2.2 dL_add_14
    · exact absurd hc (n_add _ _)
    · refine vx_catch (name := nIS) hown [⟨0, 9, 12, 13⟩] ⟨0, 9, 15, 24⟩ [] (htab.trans rfl) (List.forall_mem_cons.mpr ⟨Or.inr ⟨by decide, nIO, lknIO, hN3.2.1⟩, (fun _ h => absurd h List.not_mem_nil)⟩) (by decide) (by decide) lknIS (xB_use hX.2.1 (.castable nIS nIS) (by decide +kernel)) e1 e2 e3 ?_
      refine lv_astore_n (lv' := [(3, .ref q9), (0, .ref (ad 0)), (1, .int (iI g)), (2, .ref ao)]) hx hb dL_add_15 rfl hl (by decide) rfl (fun ls hl => ?_)
      refine k_iconst hx hb dL_add_16 ?_
      refine W.widen (k := 2) (n := 6 * 2) (Nat.le_of_ble_eq_true rfl) (Nat.le_of_ble_eq_true rfl) ?_
      exact W.iret hx hb hr (fun t ht hW => ⟨⟨_, (σ, fo), rfl, ⟨by rw [hc]; rfl, by rw [hc]; rfl, fun h => absurd (hc.symm.trans h) (by decide)⟩, by rw [ht]; exact hP, by rw [ht]; exact hO, va_K.moved hW.alike hK⟩, hS.F ht⟩) hS.2.2 dL_add_17
  · refine lv_i2l hx hb dL_add_7 rfl ?_
    refine k_ost hx hb hAo hao hK hP hO hS hI hAc dL_add_8 (fun H locs fo hfo hP hO hS => ?_)
    refine lv_goto (tgt := 18) hx hb dL_add_9 (by decide) ?_
    refine k_iconst hx hb dL_add_18 ?_
    refine W.widen (k := 2) (n := 6 * 2) (Nat.le_of_ble_eq_true rfl) (Nat.le_of_ble_eq_true rfl) ?_
    exact W.iret hx hb hr (fun t ht hW => ⟨⟨_, (up (up σ (9 + (σ 0 2).toNat) 0 g) 0 2 ((σ 0 2) + 1), fo), rfl, ⟨by rw [h0]; rfl, by rw [h0, hSt, if_pos rfl], fun _ => hfo⟩, by rw [ht]; exact hP, by rw [ht]; exact hO, va_K.moved hW.alike hK⟩, hS.F ht⟩) hS.2.2 dL_add_19
set_option maxHeartbeats 4000000 in
set_option maxRecDepth 100000 in
theorem l_plant (l : Launch) (hfl : l.stackTraces = false) (G : va_G) (ad : Nat → Nat) (cy : Nat → ClassId) (hI : cI ad) (ao : Nat) (hao : ∀ j, j < 33 → ao ≠ ad j) (fo : Nat → Int64) (σ : Sg) (hB : cBd σ) (n c h : Int) (hn : nB n) (hc : nB c) (hh : nB h) : lM l yL_plant wsL_plant ({ frames := 8, cells := 5, slots := 30, locals := 131 } : Room) G ad cy ao fo [.ref (ad 0), .int (iI n), .int (iI c), .int (iI h), .ref ao] σ (kPlant σ n c h) 3 (fNeedUp σ c.toNat (σ 0 4) * h) (fPlant σ n.toNat c h) 5 := by
  intro sz
  refine va_MetW (cc := cL_plant) (maxL := 6) (ret := (some .int)) (hh := [(0, 12, 15, 13), (0, 12, 19, 15), (0, 12, 23, 24)]) (by decide) rfl ?_
  intro p e s m args below meth cd s₁ B hml hv
  obtain ⟨rfl, hsz, hP, hO, hK, hX, hN3⟩ := hv
  have hx := B.exec
  have hb := B.bytes
  have hr := B.returns
  have hts := atoms_spec (ws := wsL_plant) B.pre
  have hown : s.vm.findClass RL = some m.cls := findClass_of_methodNamed B.named
  have hlocks := B.notSynchronized
  subst hsz
  have htab := vx_table (x := yL_plant) B (hts _ List.mem_cons_self)
  have hS : va_S (oA ad ao s.heap.size) s.heap s.heap [] := va_S.rf
  have hA : ∀ q, s.heap.size ≤ q → oA ad ao s.heap.size q := fun _ h => Or.inr (Or.inr h)
  have hAc : ∀ j, j < 33 → oA ad ao s.heap.size (ad j) := fun j h => Or.inl ⟨j, h, rfl⟩
  have hAo : oA ad ao s.heap.size ao := Or.inr (Or.inl rfl)
  have hl := lv_entry ([.ref (ad 0), .int (iI n), .int (iI c), .int (iI h), .ref ao]) (n := 6) (Nat.le_of_ble_eq_true rfl)
  rw [lg_entry_eq]
  generalize (lg_sl ([.ref (ad 0), .int (iI n), .int (iI c), .int (iI h), .ref ao]) ++ List.replicate (6 - (lg_sl ([.ref (ad 0), .int (iI n), .int (iI c), .int (iI h), .ref ao])).length) Slot.unset).toArray = ls at hl ⊢
  have hl : lv_has ls 6 [(0, .ref (ad 0)), (1, .int (iI n)), (2, .int (iI c)), (3, .int (iI h)), (4, .ref ao)] := hl
  have lknIO := hts (.classLink RL 13 nIO) (by decide +kernel)
  have lknIA := hts (.classLink RL 15 nIA) (by decide +kernel)
  have lknIS := hts (.classLink RL 24 nIS) (by decide +kernel)
  refine lv_aload hx hb dL_plant_0 (lv_at hl 4 rfl) ?_
  refine k_iconst hx hb dL_plant_2 ?_
  refine lv_aload_n hx hb dL_plant_3 rfl (lv_at hl 0 rfl) ?_
  refine lv_iload_n hx hb dL_plant_4 rfl (lv_at hl 1 rfl) ?_
  refine lv_iload_n hx hb dL_plant_5 rfl (lv_at hl 2 rfl) ?_
  refine lv_iload_n hx hb dL_plant_6 rfl (lv_at hl 3 rfl) ?_
  refine k_hxi (As := [.int (iI n), .int (iI c), .int (iI h)]) (rest := [.int (iI 0), .ref ao]) ⟨hx, hb, hml, hown, hts⟩ (h_plant l hfl G ad cy hI σ hB n c h (by assumption) (by assumption) (by assumption)) (cwV 3 hts gL_plant_X2_plant rfl rfl rfl (by decide +kernel) ⟨Nat.le_of_ble_eq_true rfl, Nat.le_of_ble_eq_true rfl⟩) hAc hA hK hX hao hP hO hS rfl hl.1 rfl (Nat.le_of_ble_eq_true rfl) dL_plant_7 ⟨Nat.le_of_ble_eq_true rfl, Nat.le_of_ble_eq_true rfl⟩ (fun E ce q9 H locs hN hP hO hS e1 e2 e3 => ?_) (fun h0 H locs hP hO hS => ?_)
  · rcases hN with ⟨hc, rfl⟩ | ⟨hc, rfl⟩ | ⟨hc, rfl⟩
    · refine vx_catch (name := nIO) hown [] ⟨0, 12, 15, 13⟩ [⟨0, 12, 19, 15⟩, ⟨0, 12, 23, 24⟩] (htab.trans rfl) (fun z h => absurd h List.not_mem_nil) (by decide) (by decide) lknIO (xB_use hX.2.1 (.castable nIO nIO) (by decide +kernel)) e1 e2 e3 ?_
      refine lv_astore (lv' := [(5, .ref q9), (0, .ref (ad 0)), (1, .int (iI n)), (2, .int (iI c)), (3, .int (iI h)), (4, .ref ao)]) hx hb dL_plant_15 hl (by decide) rfl (fun ls hl => ?_)
      refine k_iconst hx hb dL_plant_17 ?_
      refine W.widen (k := 5) (n := 6 * 5) (Nat.le_of_ble_eq_true rfl) (Nat.le_of_ble_eq_true rfl) ?_
      exact W.iret hx hb hr (fun t ht hW => ⟨⟨_, (σ, fo), rfl, ⟨by rw [hc]; rfl, by rw [hc]; rfl, fun h => absurd (hc.symm.trans h) (by decide)⟩, by rw [ht]; exact hP, by rw [ht]; exact hO, va_K.moved hW.alike hK⟩, hS.F ht⟩) hS.2.2 dL_plant_18
    · refine vx_catch (name := nIA) hown [⟨0, 12, 15, 13⟩] ⟨0, 12, 19, 15⟩ [⟨0, 12, 23, 24⟩] (htab.trans rfl) (List.forall_mem_cons.mpr ⟨Or.inr ⟨by decide, nIO, lknIO, hN3.1⟩, (fun _ h => absurd h List.not_mem_nil)⟩) (by decide) (by decide) lknIA (xB_use hX.2.1 (.castable nIA nIA) (by decide +kernel)) e1 e2 e3 ?_
      refine lv_astore (lv' := [(5, .ref q9), (0, .ref (ad 0)), (1, .int (iI n)), (2, .int (iI c)), (3, .int (iI h)), (4, .ref ao)]) hx hb dL_plant_19 hl (by decide) rfl (fun ls hl => ?_)
      refine k_iconst hx hb dL_plant_21 ?_
      refine W.widen (k := 5) (n := 6 * 5) (Nat.le_of_ble_eq_true rfl) (Nat.le_of_ble_eq_true rfl) ?_
      exact W.iret hx hb hr (fun t ht hW => ⟨⟨_, (σ, fo), rfl, ⟨by rw [hc]; rfl, by rw [hc]; rfl, fun h => absurd (hc.symm.trans h) (by decide)⟩, by rw [ht]; exact hP, by rw [ht]; exact hO, va_K.moved hW.alike hK⟩, hS.F ht⟩) hS.2.2 dL_plant_22
    · refine vx_catch (name := nIS) hown [⟨0, 12, 15, 13⟩, ⟨0, 12, 19, 15⟩] ⟨0, 12, 23, 24⟩ [] (htab.trans rfl) (List.forall_mem_cons.mpr ⟨Or.inr ⟨by decide, nIO, lknIO, hN3.2.1⟩, (List.forall_mem_cons.mpr ⟨Or.inr ⟨by decide, nIA, lknIA, hN3.2.2⟩, (fun _ h => absurd h List.not_mem_nil)⟩)⟩) (by decide) (by decide) lknIS (xB_use hX.2.1 (.castable nIS nIS) (by decide +kernel)) e1 e2 e3 ?_
      refine lv_astore (lv' := [(5, .ref q9), (0, .ref (ad 0)), (1, .int (iI n)), (2, .int (iI c)), (3, .int (iI h)), (4, .ref ao)]) hx hb dL_plant_23 hl (by decide) rfl (fun ls hl => ?_)
      refine k_iconst hx hb dL_plant_25 ?_
      refine W.widen (k := 5) (n := 6 * 5) (Nat.le_of_ble_eq_true rfl) (Nat.le_of_ble_eq_true rfl) ?_
      exact W.iret hx hb hr (fun t ht hW => ⟨⟨_, (σ, fo), rfl, ⟨by rw [hc]; rfl, by rw [hc]; rfl, fun h => absurd (hc.symm.trans h) (by decide)⟩, by rw [ht]; exact hP, by rw [ht]; exact hO, va_K.moved hW.alike hK⟩, hS.F ht⟩) hS.2.2 dL_plant_26
  · refine lv_i2l hx hb dL_plant_10 rfl ?_
    refine k_ost hx hb hAo hao hK hP hO hS hI hAc dL_plant_11 (fun H locs fo hfo hP hO hS => ?_)
    refine lv_goto (tgt := 27) hx hb dL_plant_12 (by decide) ?_
    refine k_iconst hx hb dL_plant_27 ?_
    refine W.widen (k := 5) (n := 6 * 5) (Nat.le_of_ble_eq_true rfl) (Nat.le_of_ble_eq_true rfl) ?_
    exact W.iret hx hb hr (fun t ht hW => ⟨⟨_, (fPlant σ n.toNat c h, fo), rfl, ⟨by rw [h0]; rfl, by rw [h0, hSt, if_pos rfl], fun _ => hfo⟩, by rw [ht]; exact hP, by rw [ht]; exact hO, va_K.moved hW.alike hK⟩, hS.F ht⟩) hS.2.2 dL_plant_28
set_option maxHeartbeats 4000000 in
set_option maxRecDepth 100000 in
theorem l_cover (l : Launch) (hfl : l.stackTraces = false) (G : va_G) (ad : Nat → Nat) (cy : Nat → ClassId) (hI : cI ad) (ao : Nat) (hao : ∀ j, j < 33 → ao ≠ ad j) (fo : Nat → Int64) (σ : Sg) (hB : cBd σ) (n x : Int) (hn : nB n) (hx : nB x) : lM l yL_cover wsL_cover ({ frames := 8, cells := 3, slots := 18, locals := 130 } : Room) G ad cy ao fo [.ref (ad 0), .int (iI n), .int (iI x), .ref ao] σ (kCover σ n x) 3 (σ (9 + n.toNat) 14) (up σ (9 + n.toNat) 14 x) 3 := by
  intro sz
  refine va_MetW (cc := cL_cover) (maxL := 5) (ret := (some .int)) (hh := [(0, 10, 13, 13), (0, 10, 17, 15), (0, 10, 21, 24)]) (by decide) rfl ?_
  intro p e s m args below meth cd s₁ B hml hv
  obtain ⟨rfl, hsz, hP, hO, hK, hX, hN3⟩ := hv
  have hx := B.exec
  have hb := B.bytes
  have hr := B.returns
  have hts := atoms_spec (ws := wsL_cover) B.pre
  have hown : s.vm.findClass RL = some m.cls := findClass_of_methodNamed B.named
  have hlocks := B.notSynchronized
  subst hsz
  have htab := vx_table (x := yL_cover) B (hts _ List.mem_cons_self)
  have hS : va_S (oA ad ao s.heap.size) s.heap s.heap [] := va_S.rf
  have hA : ∀ q, s.heap.size ≤ q → oA ad ao s.heap.size q := fun _ h => Or.inr (Or.inr h)
  have hAc : ∀ j, j < 33 → oA ad ao s.heap.size (ad j) := fun j h => Or.inl ⟨j, h, rfl⟩
  have hAo : oA ad ao s.heap.size ao := Or.inr (Or.inl rfl)
  have hl := lv_entry ([.ref (ad 0), .int (iI n), .int (iI x), .ref ao]) (n := 5) (Nat.le_of_ble_eq_true rfl)
  rw [lg_entry_eq]
  generalize (lg_sl ([.ref (ad 0), .int (iI n), .int (iI x), .ref ao]) ++ List.replicate (5 - (lg_sl ([.ref (ad 0), .int (iI n), .int (iI x), .ref ao])).length) Slot.unset).toArray = ls at hl ⊢
  have hl : lv_has ls 5 [(0, .ref (ad 0)), (1, .int (iI n)), (2, .int (iI x)), (3, .ref ao)] := hl
  have lknIO := hts (.classLink RL 13 nIO) (by decide +kernel)
  have lknIA := hts (.classLink RL 15 nIA) (by decide +kernel)
  have lknIS := hts (.classLink RL 24 nIS) (by decide +kernel)
  refine lv_aload_n hx hb dL_cover_0 rfl (lv_at hl 3 rfl) ?_
  refine k_iconst hx hb dL_cover_1 ?_
  refine lv_aload_n hx hb dL_cover_2 rfl (lv_at hl 0 rfl) ?_
  refine lv_iload_n hx hb dL_cover_3 rfl (lv_at hl 1 rfl) ?_
  refine lv_iload_n hx hb dL_cover_4 rfl (lv_at hl 2 rfl) ?_
  refine k_hxi (As := [.int (iI n), .int (iI x)]) (rest := [.int (iI 0), .ref ao]) ⟨hx, hb, hml, hown, hts⟩ (h_cover l hfl G ad cy hI σ hB n x (by assumption) (by assumption)) (cwV 2 hts gL_cover_X2_cover rfl rfl rfl (by decide +kernel) ⟨Nat.le_of_ble_eq_true rfl, Nat.le_of_ble_eq_true rfl⟩) hAc hA hK hX hao hP hO hS rfl hl.1 rfl (Nat.le_of_ble_eq_true rfl) dL_cover_5 ⟨Nat.le_of_ble_eq_true rfl, Nat.le_of_ble_eq_true rfl⟩ (fun E ce q9 H locs hN hP hO hS e1 e2 e3 => ?_) (fun h0 H locs hP hO hS => ?_)
  · rcases hN with ⟨hc, rfl⟩ | ⟨hc, rfl⟩ | ⟨hc, rfl⟩
    · refine vx_catch (name := nIO) hown [] ⟨0, 10, 13, 13⟩ [⟨0, 10, 17, 15⟩, ⟨0, 10, 21, 24⟩] (htab.trans rfl) (fun z h => absurd h List.not_mem_nil) (by decide) (by decide) lknIO (xB_use hX.2.1 (.castable nIO nIO) (by decide +kernel)) e1 e2 e3 ?_
      refine lv_astore (lv' := [(4, .ref q9), (0, .ref (ad 0)), (1, .int (iI n)), (2, .int (iI x)), (3, .ref ao)]) hx hb dL_cover_13 hl (by decide) rfl (fun ls hl => ?_)
      refine k_iconst hx hb dL_cover_15 ?_
      refine W.widen (k := 3) (n := 6 * 3) (Nat.le_of_ble_eq_true rfl) (Nat.le_of_ble_eq_true rfl) ?_
      exact W.iret hx hb hr (fun t ht hW => ⟨⟨_, (σ, fo), rfl, ⟨by rw [hc]; rfl, by rw [hc]; rfl, fun h => absurd (hc.symm.trans h) (by decide)⟩, by rw [ht]; exact hP, by rw [ht]; exact hO, va_K.moved hW.alike hK⟩, hS.F ht⟩) hS.2.2 dL_cover_16
    · refine vx_catch (name := nIA) hown [⟨0, 10, 13, 13⟩] ⟨0, 10, 17, 15⟩ [⟨0, 10, 21, 24⟩] (htab.trans rfl) (List.forall_mem_cons.mpr ⟨Or.inr ⟨by decide, nIO, lknIO, hN3.1⟩, (fun _ h => absurd h List.not_mem_nil)⟩) (by decide) (by decide) lknIA (xB_use hX.2.1 (.castable nIA nIA) (by decide +kernel)) e1 e2 e3 ?_
      refine lv_astore (lv' := [(4, .ref q9), (0, .ref (ad 0)), (1, .int (iI n)), (2, .int (iI x)), (3, .ref ao)]) hx hb dL_cover_17 hl (by decide) rfl (fun ls hl => ?_)
      refine k_iconst hx hb dL_cover_19 ?_
      refine W.widen (k := 3) (n := 6 * 3) (Nat.le_of_ble_eq_true rfl) (Nat.le_of_ble_eq_true rfl) ?_
      exact W.iret hx hb hr (fun t ht hW => ⟨⟨_, (σ, fo), rfl, ⟨by rw [hc]; rfl, by rw [hc]; rfl, fun h => absurd (hc.symm.trans h) (by decide)⟩, by rw [ht]; exact hP, by rw [ht]; exact hO, va_K.moved hW.alike hK⟩, hS.F ht⟩) hS.2.2 dL_cover_20
    · refine vx_catch (name := nIS) hown [⟨0, 10, 13, 13⟩, ⟨0, 10, 17, 15⟩] ⟨0, 10, 21, 24⟩ [] (htab.trans rfl) (List.forall_mem_cons.mpr ⟨Or.inr ⟨by decide, nIO, lknIO, hN3.2.1⟩, (List.forall_mem_cons.mpr ⟨Or.inr ⟨by decide, nIA, lknIA, hN3.2.2⟩, (fun _ h => absurd h List.not_mem_nil)⟩)⟩) (by decide) (by decide) lknIS (xB_use hX.2.1 (.castable nIS nIS) (by decide +kernel)) e1 e2 e3 ?_
      refine lv_astore (lv' := [(4, .ref q9), (0, .ref (ad 0)), (1, .int (iI n)), (2, .int (iI x)), (3, .ref ao)]) hx hb dL_cover_21 hl (by decide) rfl (fun ls hl => ?_)
      refine k_iconst hx hb dL_cover_23 ?_
      refine W.widen (k := 3) (n := 6 * 3) (Nat.le_of_ble_eq_true rfl) (Nat.le_of_ble_eq_true rfl) ?_
      exact W.iret hx hb hr (fun t ht hW => ⟨⟨_, (σ, fo), rfl, ⟨by rw [hc]; rfl, by rw [hc]; rfl, fun h => absurd (hc.symm.trans h) (by decide)⟩, by rw [ht]; exact hP, by rw [ht]; exact hO, va_K.moved hW.alike hK⟩, hS.F ht⟩) hS.2.2 dL_cover_24
  · refine lv_i2l hx hb dL_cover_8 rfl ?_
    refine k_ost hx hb hAo hao hK hP hO hS hI hAc dL_cover_9 (fun H locs fo hfo hP hO hS => ?_)
    refine lv_goto (tgt := 25) hx hb dL_cover_10 (by decide) ?_
    refine k_iconst hx hb dL_cover_25 ?_
    refine W.widen (k := 3) (n := 6 * 3) (Nat.le_of_ble_eq_true rfl) (Nat.le_of_ble_eq_true rfl) ?_
    exact W.iret hx hb hr (fun t ht hW => ⟨⟨_, (up σ (9 + n.toNat) 14 x, fo), rfl, ⟨by rw [h0]; rfl, by rw [h0, hSt, if_pos rfl], fun _ => hfo⟩, by rw [ht]; exact hP, by rw [ht]; exact hO, va_K.moved hW.alike hK⟩, hS.F ht⟩) hS.2.2 dL_cover_26
set_option maxHeartbeats 4000000 in
set_option maxRecDepth 100000 in
theorem l_draw (l : Launch) (hfl : l.stackTraces = false) (G : va_G) (ad : Nat → Nat) (cy : Nat → ClassId) (hI : cI ad) (ao : Nat) (hao : ∀ j, j < 33 → ao ≠ ad j) (fo : Nat → Int64) (σ : Sg) (hB : cBd σ) (n x : Int) (hn : nB n) (hx : nB x) : lM l yL_draw wsL_draw ({ frames := 9, cells := 5, slots := 30, locals := 150 } : Room) G ad cy ao fo [.ref (ad 0), .int (iI n), .int (iI x), .ref ao] σ (kDraw σ n x) 3 ((fLimit σ n.toNat - σ (9 + n.toNat) 16) - x) (fDraw σ n.toNat x) 5 := by
  intro sz
  refine va_MetW (cc := cL_draw) (maxL := 5) (ret := (some .int)) (hh := [(0, 10, 13, 13), (0, 10, 17, 15), (0, 10, 21, 24)]) (by decide) rfl ?_
  intro p e s m args below meth cd s₁ B hml hv
  obtain ⟨rfl, hsz, hP, hO, hK, hX, hN3⟩ := hv
  have hx := B.exec
  have hb := B.bytes
  have hr := B.returns
  have hts := atoms_spec (ws := wsL_draw) B.pre
  have hown : s.vm.findClass RL = some m.cls := findClass_of_methodNamed B.named
  have hlocks := B.notSynchronized
  subst hsz
  have htab := vx_table (x := yL_draw) B (hts _ List.mem_cons_self)
  have hS : va_S (oA ad ao s.heap.size) s.heap s.heap [] := va_S.rf
  have hA : ∀ q, s.heap.size ≤ q → oA ad ao s.heap.size q := fun _ h => Or.inr (Or.inr h)
  have hAc : ∀ j, j < 33 → oA ad ao s.heap.size (ad j) := fun j h => Or.inl ⟨j, h, rfl⟩
  have hAo : oA ad ao s.heap.size ao := Or.inr (Or.inl rfl)
  have hl := lv_entry ([.ref (ad 0), .int (iI n), .int (iI x), .ref ao]) (n := 5) (Nat.le_of_ble_eq_true rfl)
  rw [lg_entry_eq]
  generalize (lg_sl ([.ref (ad 0), .int (iI n), .int (iI x), .ref ao]) ++ List.replicate (5 - (lg_sl ([.ref (ad 0), .int (iI n), .int (iI x), .ref ao])).length) Slot.unset).toArray = ls at hl ⊢
  have hl : lv_has ls 5 [(0, .ref (ad 0)), (1, .int (iI n)), (2, .int (iI x)), (3, .ref ao)] := hl
  have lknIO := hts (.classLink RL 13 nIO) (by decide +kernel)
  have lknIA := hts (.classLink RL 15 nIA) (by decide +kernel)
  have lknIS := hts (.classLink RL 24 nIS) (by decide +kernel)
  refine lv_aload_n hx hb dL_draw_0 rfl (lv_at hl 3 rfl) ?_
  refine k_iconst hx hb dL_draw_1 ?_
  refine lv_aload_n hx hb dL_draw_2 rfl (lv_at hl 0 rfl) ?_
  refine lv_iload_n hx hb dL_draw_3 rfl (lv_at hl 1 rfl) ?_
  refine lv_iload_n hx hb dL_draw_4 rfl (lv_at hl 2 rfl) ?_
  refine k_hxi (As := [.int (iI n), .int (iI x)]) (rest := [.int (iI 0), .ref ao]) ⟨hx, hb, hml, hown, hts⟩ (h_draw l hfl G ad cy hI σ hB n x (by assumption) (by assumption)) (cwV 2 hts gL_draw_X2_draw rfl rfl rfl (by decide +kernel) ⟨Nat.le_of_ble_eq_true rfl, Nat.le_of_ble_eq_true rfl⟩) hAc hA hK hX hao hP hO hS rfl hl.1 rfl (Nat.le_of_ble_eq_true rfl) dL_draw_5 ⟨Nat.le_of_ble_eq_true rfl, Nat.le_of_ble_eq_true rfl⟩ (fun E ce q9 H locs hN hP hO hS e1 e2 e3 => ?_) (fun h0 H locs hP hO hS => ?_)
  · rcases hN with ⟨hc, rfl⟩ | ⟨hc, rfl⟩ | ⟨hc, rfl⟩
    · refine vx_catch (name := nIO) hown [] ⟨0, 10, 13, 13⟩ [⟨0, 10, 17, 15⟩, ⟨0, 10, 21, 24⟩] (htab.trans rfl) (fun z h => absurd h List.not_mem_nil) (by decide) (by decide) lknIO (xB_use hX.2.1 (.castable nIO nIO) (by decide +kernel)) e1 e2 e3 ?_
      refine lv_astore (lv' := [(4, .ref q9), (0, .ref (ad 0)), (1, .int (iI n)), (2, .int (iI x)), (3, .ref ao)]) hx hb dL_draw_13 hl (by decide) rfl (fun ls hl => ?_)
      refine k_iconst hx hb dL_draw_15 ?_
      refine W.widen (k := 5) (n := 6 * 5) (Nat.le_of_ble_eq_true rfl) (Nat.le_of_ble_eq_true rfl) ?_
      exact W.iret hx hb hr (fun t ht hW => ⟨⟨_, (σ, fo), rfl, ⟨by rw [hc]; rfl, by rw [hc]; rfl, fun h => absurd (hc.symm.trans h) (by decide)⟩, by rw [ht]; exact hP, by rw [ht]; exact hO, va_K.moved hW.alike hK⟩, hS.F ht⟩) hS.2.2 dL_draw_16
    · refine vx_catch (name := nIA) hown [⟨0, 10, 13, 13⟩] ⟨0, 10, 17, 15⟩ [⟨0, 10, 21, 24⟩] (htab.trans rfl) (List.forall_mem_cons.mpr ⟨Or.inr ⟨by decide, nIO, lknIO, hN3.1⟩, (fun _ h => absurd h List.not_mem_nil)⟩) (by decide) (by decide) lknIA (xB_use hX.2.1 (.castable nIA nIA) (by decide +kernel)) e1 e2 e3 ?_
      refine lv_astore (lv' := [(4, .ref q9), (0, .ref (ad 0)), (1, .int (iI n)), (2, .int (iI x)), (3, .ref ao)]) hx hb dL_draw_17 hl (by decide) rfl (fun ls hl => ?_)
      refine k_iconst hx hb dL_draw_19 ?_
      refine W.widen (k := 5) (n := 6 * 5) (Nat.le_of_ble_eq_true rfl) (Nat.le_of_ble_eq_true rfl) ?_
      exact W.iret hx hb hr (fun t ht hW => ⟨⟨_, (σ, fo), rfl, ⟨by rw [hc]; rfl, by rw [hc]; rfl, fun h => absurd (hc.symm.trans h) (by decide)⟩, by rw [ht]; exact hP, by rw [ht]; exact hO, va_K.moved hW.alike hK⟩, hS.F ht⟩) hS.2.2 dL_draw_20
    · refine vx_catch (name := nIS) hown [⟨0, 10, 13, 13⟩, ⟨0, 10, 17, 15⟩] ⟨0, 10, 21, 24⟩ [] (htab.trans rfl) (List.forall_mem_cons.mpr ⟨Or.inr ⟨by decide, nIO, lknIO, hN3.2.1⟩, (List.forall_mem_cons.mpr ⟨Or.inr ⟨by decide, nIA, lknIA, hN3.2.2⟩, (fun _ h => absurd h List.not_mem_nil)⟩)⟩) (by decide) (by decide) lknIS (xB_use hX.2.1 (.castable nIS nIS) (by decide +kernel)) e1 e2 e3 ?_
      refine lv_astore (lv' := [(4, .ref q9), (0, .ref (ad 0)), (1, .int (iI n)), (2, .int (iI x)), (3, .ref ao)]) hx hb dL_draw_21 hl (by decide) rfl (fun ls hl => ?_)
      refine k_iconst hx hb dL_draw_23 ?_
      refine W.widen (k := 5) (n := 6 * 5) (Nat.le_of_ble_eq_true rfl) (Nat.le_of_ble_eq_true rfl) ?_
      exact W.iret hx hb hr (fun t ht hW => ⟨⟨_, (σ, fo), rfl, ⟨by rw [hc]; rfl, by rw [hc]; rfl, fun h => absurd (hc.symm.trans h) (by decide)⟩, by rw [ht]; exact hP, by rw [ht]; exact hO, va_K.moved hW.alike hK⟩, hS.F ht⟩) hS.2.2 dL_draw_24
  · refine lv_i2l hx hb dL_draw_8 rfl ?_
    refine k_ost hx hb hAo hao hK hP hO hS hI hAc dL_draw_9 (fun H locs fo hfo hP hO hS => ?_)
    refine lv_goto (tgt := 25) hx hb dL_draw_10 (by decide) ?_
    refine k_iconst hx hb dL_draw_25 ?_
    refine W.widen (k := 5) (n := 6 * 5) (Nat.le_of_ble_eq_true rfl) (Nat.le_of_ble_eq_true rfl) ?_
    exact W.iret hx hb hr (fun t ht hW => ⟨⟨_, (fDraw σ n.toNat x, fo), rfl, ⟨by rw [h0]; rfl, by rw [h0, hSt, if_pos rfl], fun _ => hfo⟩, by rw [ht]; exact hP, by rw [ht]; exact hO, va_K.moved hW.alike hK⟩, hS.F ht⟩) hS.2.2 dL_draw_26
set_option maxHeartbeats 4000000 in
set_option maxRecDepth 100000 in
theorem l_setYield (l : Launch) (hfl : l.stackTraces = false) (G : va_G) (ad : Nat → Nat) (cy : Nat → ClassId) (hI : cI ad) (ao : Nat) (hao : ∀ j, j < 33 → ao ≠ ad j) (fo : Nat → Int64) (σ : Sg) (hB : cBd σ) (n x : Int) (hn : nB n) (hx : nB x) : lM l yL_setYield wsL_setYield ({ frames := 8, cells := 3, slots := 18, locals := 130 } : Room) G ad cy ao fo [.ref (ad 0), .int (iI n), .int (iI x), .ref ao] σ (kYield σ n x) 3 (σ (9 + n.toNat) 15) (up σ (9 + n.toNat) 15 x) 3 := by
  intro sz
  refine va_MetW (cc := cL_setYield) (maxL := 5) (ret := (some .int)) (hh := [(0, 10, 13, 13), (0, 10, 17, 15), (0, 10, 21, 24)]) (by decide) rfl ?_
  intro p e s m args below meth cd s₁ B hml hv
  obtain ⟨rfl, hsz, hP, hO, hK, hX, hN3⟩ := hv
  have hx := B.exec
  have hb := B.bytes
  have hr := B.returns
  have hts := atoms_spec (ws := wsL_setYield) B.pre
  have hown : s.vm.findClass RL = some m.cls := findClass_of_methodNamed B.named
  have hlocks := B.notSynchronized
  subst hsz
  have htab := vx_table (x := yL_setYield) B (hts _ List.mem_cons_self)
  have hS : va_S (oA ad ao s.heap.size) s.heap s.heap [] := va_S.rf
  have hA : ∀ q, s.heap.size ≤ q → oA ad ao s.heap.size q := fun _ h => Or.inr (Or.inr h)
  have hAc : ∀ j, j < 33 → oA ad ao s.heap.size (ad j) := fun j h => Or.inl ⟨j, h, rfl⟩
  have hAo : oA ad ao s.heap.size ao := Or.inr (Or.inl rfl)
  have hl := lv_entry ([.ref (ad 0), .int (iI n), .int (iI x), .ref ao]) (n := 5) (Nat.le_of_ble_eq_true rfl)
  rw [lg_entry_eq]
  generalize (lg_sl ([.ref (ad 0), .int (iI n), .int (iI x), .ref ao]) ++ List.replicate (5 - (lg_sl ([.ref (ad 0), .int (iI n), .int (iI x), .ref ao])).length) Slot.unset).toArray = ls at hl ⊢
  have hl : lv_has ls 5 [(0, .ref (ad 0)), (1, .int (iI n)), (2, .int (iI x)), (3, .ref ao)] := hl
  have lknIO := hts (.classLink RL 13 nIO) (by decide +kernel)
  have lknIA := hts (.classLink RL 15 nIA) (by decide +kernel)
  have lknIS := hts (.classLink RL 24 nIS) (by decide +kernel)
  refine lv_aload_n hx hb dL_setYield_0 rfl (lv_at hl 3 rfl) ?_
  refine k_iconst hx hb dL_setYield_1 ?_
  refine lv_aload_n hx hb dL_setYield_2 rfl (lv_at hl 0 rfl) ?_
  refine lv_iload_n hx hb dL_setYield_3 rfl (lv_at hl 1 rfl) ?_
  refine lv_iload_n hx hb dL_setYield_4 rfl (lv_at hl 2 rfl) ?_
  refine k_hxi (As := [.int (iI n), .int (iI x)]) (rest := [.int (iI 0), .ref ao]) ⟨hx, hb, hml, hown, hts⟩ (h_setYield l hfl G ad cy hI σ hB n x (by assumption) (by assumption)) (cwV 2 hts gL_setYield_X2_setYield rfl rfl rfl (by decide +kernel) ⟨Nat.le_of_ble_eq_true rfl, Nat.le_of_ble_eq_true rfl⟩) hAc hA hK hX hao hP hO hS rfl hl.1 rfl (Nat.le_of_ble_eq_true rfl) dL_setYield_5 ⟨Nat.le_of_ble_eq_true rfl, Nat.le_of_ble_eq_true rfl⟩ (fun E ce q9 H locs hN hP hO hS e1 e2 e3 => ?_) (fun h0 H locs hP hO hS => ?_)
  · rcases hN with ⟨hc, rfl⟩ | ⟨hc, rfl⟩ | ⟨hc, rfl⟩
    · refine vx_catch (name := nIO) hown [] ⟨0, 10, 13, 13⟩ [⟨0, 10, 17, 15⟩, ⟨0, 10, 21, 24⟩] (htab.trans rfl) (fun z h => absurd h List.not_mem_nil) (by decide) (by decide) lknIO (xB_use hX.2.1 (.castable nIO nIO) (by decide +kernel)) e1 e2 e3 ?_
      refine lv_astore (lv' := [(4, .ref q9), (0, .ref (ad 0)), (1, .int (iI n)), (2, .int (iI x)), (3, .ref ao)]) hx hb dL_setYield_13 hl (by decide) rfl (fun ls hl => ?_)
      refine k_iconst hx hb dL_setYield_15 ?_
      refine W.widen (k := 3) (n := 6 * 3) (Nat.le_of_ble_eq_true rfl) (Nat.le_of_ble_eq_true rfl) ?_
      exact W.iret hx hb hr (fun t ht hW => ⟨⟨_, (σ, fo), rfl, ⟨by rw [hc]; rfl, by rw [hc]; rfl, fun h => absurd (hc.symm.trans h) (by decide)⟩, by rw [ht]; exact hP, by rw [ht]; exact hO, va_K.moved hW.alike hK⟩, hS.F ht⟩) hS.2.2 dL_setYield_16
    · refine vx_catch (name := nIA) hown [⟨0, 10, 13, 13⟩] ⟨0, 10, 17, 15⟩ [⟨0, 10, 21, 24⟩] (htab.trans rfl) (List.forall_mem_cons.mpr ⟨Or.inr ⟨by decide, nIO, lknIO, hN3.1⟩, (fun _ h => absurd h List.not_mem_nil)⟩) (by decide) (by decide) lknIA (xB_use hX.2.1 (.castable nIA nIA) (by decide +kernel)) e1 e2 e3 ?_
      refine lv_astore (lv' := [(4, .ref q9), (0, .ref (ad 0)), (1, .int (iI n)), (2, .int (iI x)), (3, .ref ao)]) hx hb dL_setYield_17 hl (by decide) rfl (fun ls hl => ?_)
      refine k_iconst hx hb dL_setYield_19 ?_
      refine W.widen (k := 3) (n := 6 * 3) (Nat.le_of_ble_eq_true rfl) (Nat.le_of_ble_eq_true rfl) ?_
      exact W.iret hx hb hr (fun t ht hW => ⟨⟨_, (σ, fo), rfl, ⟨by rw [hc]; rfl, by rw [hc]; rfl, fun h => absurd (hc.symm.trans h) (by decide)⟩, by rw [ht]; exact hP, by rw [ht]; exact hO, va_K.moved hW.alike hK⟩, hS.F ht⟩) hS.2.2 dL_setYield_20
    · refine vx_catch (name := nIS) hown [⟨0, 10, 13, 13⟩, ⟨0, 10, 17, 15⟩] ⟨0, 10, 21, 24⟩ [] (htab.trans rfl) (List.forall_mem_cons.mpr ⟨Or.inr ⟨by decide, nIO, lknIO, hN3.2.1⟩, (List.forall_mem_cons.mpr ⟨Or.inr ⟨by decide, nIA, lknIA, hN3.2.2⟩, (fun _ h => absurd h List.not_mem_nil)⟩)⟩) (by decide) (by decide) lknIS (xB_use hX.2.1 (.castable nIS nIS) (by decide +kernel)) e1 e2 e3 ?_
      refine lv_astore (lv' := [(4, .ref q9), (0, .ref (ad 0)), (1, .int (iI n)), (2, .int (iI x)), (3, .ref ao)]) hx hb dL_setYield_21 hl (by decide) rfl (fun ls hl => ?_)
      refine k_iconst hx hb dL_setYield_23 ?_
      refine W.widen (k := 3) (n := 6 * 3) (Nat.le_of_ble_eq_true rfl) (Nat.le_of_ble_eq_true rfl) ?_
      exact W.iret hx hb hr (fun t ht hW => ⟨⟨_, (σ, fo), rfl, ⟨by rw [hc]; rfl, by rw [hc]; rfl, fun h => absurd (hc.symm.trans h) (by decide)⟩, by rw [ht]; exact hP, by rw [ht]; exact hO, va_K.moved hW.alike hK⟩, hS.F ht⟩) hS.2.2 dL_setYield_24
  · refine lv_i2l hx hb dL_setYield_8 rfl ?_
    refine k_ost hx hb hAo hao hK hP hO hS hI hAc dL_setYield_9 (fun H locs fo hfo hP hO hS => ?_)
    refine lv_goto (tgt := 25) hx hb dL_setYield_10 (by decide) ?_
    refine k_iconst hx hb dL_setYield_25 ?_
    refine W.widen (k := 3) (n := 6 * 3) (Nat.le_of_ble_eq_true rfl) (Nat.le_of_ble_eq_true rfl) ?_
    exact W.iret hx hb hr (fun t ht hW => ⟨⟨_, (up σ (9 + n.toNat) 15 x, fo), rfl, ⟨by rw [h0]; rfl, by rw [h0, hSt, if_pos rfl], fun _ => hfo⟩, by rw [ht]; exact hP, by rw [ht]; exact hO, va_K.moved hW.alike hK⟩, hS.F ht⟩) hS.2.2 dL_setYield_26
set_option maxHeartbeats 4000000 in
set_option maxRecDepth 100000 in
theorem l_next (l : Launch) (hfl : l.stackTraces = false) (G : va_G) (ad : Nat → Nat) (cy : Nat → ClassId) (hI : cI ad) (ao : Nat) (hao : ∀ j, j < 33 → ao ≠ ad j) (fo : Nat → Int64) (σ : Sg) (hB : cBd σ)  : lM l yL_next wsL_next ({ frames := 9, cells := 9, slots := 54, locals := 147 } : Room) G ad cy ao fo [.ref (ad 0), .ref ao] σ (kNext σ) 1 (σ 0 4 + 1) (fNext σ) 9 := by
  intro sz
  refine va_MetW (cc := cL_next) (maxL := 3) (ret := (some .int)) (hh := [(0, 8, 11, 24)]) (by decide) rfl ?_
  intro p e s m args below meth cd s₁ B hml hv
  obtain ⟨rfl, hsz, hP, hO, hK, hX, hN3⟩ := hv
  have hx := B.exec
  have hb := B.bytes
  have hr := B.returns
  have hts := atoms_spec (ws := wsL_next) B.pre
  have hown : s.vm.findClass RL = some m.cls := findClass_of_methodNamed B.named
  have hlocks := B.notSynchronized
  subst hsz
  have htab := vx_table (x := yL_next) B (hts _ List.mem_cons_self)
  have hS : va_S (oA ad ao s.heap.size) s.heap s.heap [] := va_S.rf
  have hA : ∀ q, s.heap.size ≤ q → oA ad ao s.heap.size q := fun _ h => Or.inr (Or.inr h)
  have hAc : ∀ j, j < 33 → oA ad ao s.heap.size (ad j) := fun j h => Or.inl ⟨j, h, rfl⟩
  have hAo : oA ad ao s.heap.size ao := Or.inr (Or.inl rfl)
  have hl := lv_entry ([.ref (ad 0), .ref ao]) (n := 3) (Nat.le_of_ble_eq_true rfl)
  rw [lg_entry_eq]
  generalize (lg_sl ([.ref (ad 0), .ref ao]) ++ List.replicate (3 - (lg_sl ([.ref (ad 0), .ref ao])).length) Slot.unset).toArray = ls at hl ⊢
  have hl : lv_has ls 3 [(0, .ref (ad 0)), (1, .ref ao)] := hl
  have lknIS := hts (.classLink RL 24 nIS) (by decide +kernel)
  refine lv_aload_n hx hb dL_next_0 rfl (lv_at hl 1 rfl) ?_
  refine k_iconst hx hb dL_next_1 ?_
  refine lv_aload_n hx hb dL_next_2 rfl (lv_at hl 0 rfl) ?_
  refine k_hxi (As := []) (rest := [.int (iI 0), .ref ao]) ⟨hx, hb, hml, hown, hts⟩ (h_next l hfl G ad cy hI σ hB  ) (cwV 0 hts gL_next_X2_next rfl rfl rfl (by decide +kernel) ⟨Nat.le_of_ble_eq_true rfl, Nat.le_of_ble_eq_true rfl⟩) hAc hA hK hX hao hP hO hS rfl hl.1 rfl (Nat.le_of_ble_eq_true rfl) dL_next_3 ⟨Nat.le_of_ble_eq_true rfl, Nat.le_of_ble_eq_true rfl⟩ (fun E ce q9 H locs hN hP hO hS e1 e2 e3 => ?_) (fun h0 H locs hP hO hS => ?_)
  · rcases hN with ⟨hc, rfl⟩ | ⟨hc, rfl⟩ | ⟨hc, rfl⟩
    · exact absurd hc ((n_next _).1)
    · exact absurd hc ((n_next _).2)
    · refine vx_catch (name := nIS) hown [] ⟨0, 8, 11, 24⟩ [] (htab.trans rfl) (fun z h => absurd h List.not_mem_nil) (by decide) (by decide) lknIS (xB_use hX.2.1 (.castable nIS nIS) (by decide +kernel)) e1 e2 e3 ?_
      refine lv_astore_n (lv' := [(2, .ref q9), (0, .ref (ad 0)), (1, .ref ao)]) hx hb dL_next_11 rfl hl (by decide) rfl (fun ls hl => ?_)
      refine k_iconst hx hb dL_next_12 ?_
      refine W.widen (k := 9) (n := 6 * 9) (Nat.le_of_ble_eq_true rfl) (Nat.le_of_ble_eq_true rfl) ?_
      exact W.iret hx hb hr (fun t ht hW => ⟨⟨_, (σ, fo), rfl, ⟨by rw [hc]; rfl, by rw [hc]; rfl, fun h => absurd (hc.symm.trans h) (by decide)⟩, by rw [ht]; exact hP, by rw [ht]; exact hO, va_K.moved hW.alike hK⟩, hS.F ht⟩) hS.2.2 dL_next_13
  · refine lv_i2l hx hb dL_next_6 rfl ?_
    refine k_ost hx hb hAo hao hK hP hO hS hI hAc dL_next_7 (fun H locs fo hfo hP hO hS => ?_)
    refine lv_goto (tgt := 14) hx hb dL_next_8 (by decide) ?_
    refine k_iconst hx hb dL_next_14 ?_
    refine W.widen (k := 9) (n := 6 * 9) (Nat.le_of_ble_eq_true rfl) (Nat.le_of_ble_eq_true rfl) ?_
    exact W.iret hx hb hr (fun t ht hW => ⟨⟨_, (fNext σ, fo), rfl, ⟨by rw [h0]; rfl, by rw [h0, hSt, if_pos rfl], fun _ => hfo⟩, by rw [ht]; exact hP, by rw [ht]; exact hO, va_K.moved hW.alike hK⟩, hS.F ht⟩) hS.2.2 dL_next_15
set_option maxHeartbeats 4000000 in
set_option maxRecDepth 100000 in
theorem l_pledge (l : Launch) (hfl : l.stackTraces = false) (G : va_G) (ad : Nat → Nat) (cy : Nat → ClassId) (hI : cI ad) (ao : Nat) (hao : ∀ j, j < 33 → ao ≠ ad j) (fo : Nat → Int64) (σ : Sg) (hB : cBd σ) (n u : Int) (hn : nB n) (hu : nB u) : lM l yL_pledge wsL_pledge ({ frames := 8, cells := 4, slots := 24, locals := 129 } : Room) G ad cy ao fo [.ref (ad 0), .int (iI n), .int (iI u), .ref ao] σ (kPledge σ n u) 3 (u * σ (3 + (σ (9 + n.toNat) 11).toNat) 1 * 60 / 100) (fPledge σ n.toNat u (σ (3 + (σ (9 + n.toNat) 11).toNat) 1)) 4 := by
  intro sz
  refine va_MetW (cc := cL_pledge) (maxL := 5) (ret := (some .int)) (hh := [(0, 10, 13, 13), (0, 10, 17, 15), (0, 10, 21, 24)]) (by decide) rfl ?_
  intro p e s m args below meth cd s₁ B hml hv
  obtain ⟨rfl, hsz, hP, hO, hK, hX, hN3⟩ := hv
  have hx := B.exec
  have hb := B.bytes
  have hr := B.returns
  have hts := atoms_spec (ws := wsL_pledge) B.pre
  have hown : s.vm.findClass RL = some m.cls := findClass_of_methodNamed B.named
  have hlocks := B.notSynchronized
  subst hsz
  have htab := vx_table (x := yL_pledge) B (hts _ List.mem_cons_self)
  have hS : va_S (oA ad ao s.heap.size) s.heap s.heap [] := va_S.rf
  have hA : ∀ q, s.heap.size ≤ q → oA ad ao s.heap.size q := fun _ h => Or.inr (Or.inr h)
  have hAc : ∀ j, j < 33 → oA ad ao s.heap.size (ad j) := fun j h => Or.inl ⟨j, h, rfl⟩
  have hAo : oA ad ao s.heap.size ao := Or.inr (Or.inl rfl)
  have hl := lv_entry ([.ref (ad 0), .int (iI n), .int (iI u), .ref ao]) (n := 5) (Nat.le_of_ble_eq_true rfl)
  rw [lg_entry_eq]
  generalize (lg_sl ([.ref (ad 0), .int (iI n), .int (iI u), .ref ao]) ++ List.replicate (5 - (lg_sl ([.ref (ad 0), .int (iI n), .int (iI u), .ref ao])).length) Slot.unset).toArray = ls at hl ⊢
  have hl : lv_has ls 5 [(0, .ref (ad 0)), (1, .int (iI n)), (2, .int (iI u)), (3, .ref ao)] := hl
  have lknIO := hts (.classLink RL 13 nIO) (by decide +kernel)
  have lknIA := hts (.classLink RL 15 nIA) (by decide +kernel)
  have lknIS := hts (.classLink RL 24 nIS) (by decide +kernel)
  refine lv_aload_n hx hb dL_pledge_0 rfl (lv_at hl 3 rfl) ?_
  refine k_iconst hx hb dL_pledge_1 ?_
  refine lv_aload_n hx hb dL_pledge_2 rfl (lv_at hl 0 rfl) ?_
  refine lv_iload_n hx hb dL_pledge_3 rfl (lv_at hl 1 rfl) ?_
  refine lv_iload_n hx hb dL_pledge_4 rfl (lv_at hl 2 rfl) ?_
  refine k_hxi (As := [.int (iI n), .int (iI u)]) (rest := [.int (iI 0), .ref ao]) ⟨hx, hb, hml, hown, hts⟩ (h_pledge l hfl G ad cy hI σ hB n u (by assumption) (by assumption)) (cwV 2 hts gL_pledge_X2_pledge rfl rfl rfl (by decide +kernel) ⟨Nat.le_of_ble_eq_true rfl, Nat.le_of_ble_eq_true rfl⟩) hAc hA hK hX hao hP hO hS rfl hl.1 rfl (Nat.le_of_ble_eq_true rfl) dL_pledge_5 ⟨Nat.le_of_ble_eq_true rfl, Nat.le_of_ble_eq_true rfl⟩ (fun E ce q9 H locs hN hP hO hS e1 e2 e3 => ?_) (fun h0 H locs hP hO hS => ?_)
  · rcases hN with ⟨hc, rfl⟩ | ⟨hc, rfl⟩ | ⟨hc, rfl⟩
    · refine vx_catch (name := nIO) hown [] ⟨0, 10, 13, 13⟩ [⟨0, 10, 17, 15⟩, ⟨0, 10, 21, 24⟩] (htab.trans rfl) (fun z h => absurd h List.not_mem_nil) (by decide) (by decide) lknIO (xB_use hX.2.1 (.castable nIO nIO) (by decide +kernel)) e1 e2 e3 ?_
      refine lv_astore (lv' := [(4, .ref q9), (0, .ref (ad 0)), (1, .int (iI n)), (2, .int (iI u)), (3, .ref ao)]) hx hb dL_pledge_13 hl (by decide) rfl (fun ls hl => ?_)
      refine k_iconst hx hb dL_pledge_15 ?_
      refine W.widen (k := 4) (n := 6 * 4) (Nat.le_of_ble_eq_true rfl) (Nat.le_of_ble_eq_true rfl) ?_
      exact W.iret hx hb hr (fun t ht hW => ⟨⟨_, (σ, fo), rfl, ⟨by rw [hc]; rfl, by rw [hc]; rfl, fun h => absurd (hc.symm.trans h) (by decide)⟩, by rw [ht]; exact hP, by rw [ht]; exact hO, va_K.moved hW.alike hK⟩, hS.F ht⟩) hS.2.2 dL_pledge_16
    · refine vx_catch (name := nIA) hown [⟨0, 10, 13, 13⟩] ⟨0, 10, 17, 15⟩ [⟨0, 10, 21, 24⟩] (htab.trans rfl) (List.forall_mem_cons.mpr ⟨Or.inr ⟨by decide, nIO, lknIO, hN3.1⟩, (fun _ h => absurd h List.not_mem_nil)⟩) (by decide) (by decide) lknIA (xB_use hX.2.1 (.castable nIA nIA) (by decide +kernel)) e1 e2 e3 ?_
      refine lv_astore (lv' := [(4, .ref q9), (0, .ref (ad 0)), (1, .int (iI n)), (2, .int (iI u)), (3, .ref ao)]) hx hb dL_pledge_17 hl (by decide) rfl (fun ls hl => ?_)
      refine k_iconst hx hb dL_pledge_19 ?_
      refine W.widen (k := 4) (n := 6 * 4) (Nat.le_of_ble_eq_true rfl) (Nat.le_of_ble_eq_true rfl) ?_
      exact W.iret hx hb hr (fun t ht hW => ⟨⟨_, (σ, fo), rfl, ⟨by rw [hc]; rfl, by rw [hc]; rfl, fun h => absurd (hc.symm.trans h) (by decide)⟩, by rw [ht]; exact hP, by rw [ht]; exact hO, va_K.moved hW.alike hK⟩, hS.F ht⟩) hS.2.2 dL_pledge_20
    · refine vx_catch (name := nIS) hown [⟨0, 10, 13, 13⟩, ⟨0, 10, 17, 15⟩] ⟨0, 10, 21, 24⟩ [] (htab.trans rfl) (List.forall_mem_cons.mpr ⟨Or.inr ⟨by decide, nIO, lknIO, hN3.2.1⟩, (List.forall_mem_cons.mpr ⟨Or.inr ⟨by decide, nIA, lknIA, hN3.2.2⟩, (fun _ h => absurd h List.not_mem_nil)⟩)⟩) (by decide) (by decide) lknIS (xB_use hX.2.1 (.castable nIS nIS) (by decide +kernel)) e1 e2 e3 ?_
      refine lv_astore (lv' := [(4, .ref q9), (0, .ref (ad 0)), (1, .int (iI n)), (2, .int (iI u)), (3, .ref ao)]) hx hb dL_pledge_21 hl (by decide) rfl (fun ls hl => ?_)
      refine k_iconst hx hb dL_pledge_23 ?_
      refine W.widen (k := 4) (n := 6 * 4) (Nat.le_of_ble_eq_true rfl) (Nat.le_of_ble_eq_true rfl) ?_
      exact W.iret hx hb hr (fun t ht hW => ⟨⟨_, (σ, fo), rfl, ⟨by rw [hc]; rfl, by rw [hc]; rfl, fun h => absurd (hc.symm.trans h) (by decide)⟩, by rw [ht]; exact hP, by rw [ht]; exact hO, va_K.moved hW.alike hK⟩, hS.F ht⟩) hS.2.2 dL_pledge_24
  · refine lv_i2l hx hb dL_pledge_8 rfl ?_
    refine k_ost hx hb hAo hao hK hP hO hS hI hAc dL_pledge_9 (fun H locs fo hfo hP hO hS => ?_)
    refine lv_goto (tgt := 25) hx hb dL_pledge_10 (by decide) ?_
    refine k_iconst hx hb dL_pledge_25 ?_
    refine W.widen (k := 4) (n := 6 * 4) (Nat.le_of_ble_eq_true rfl) (Nat.le_of_ble_eq_true rfl) ?_
    exact W.iret hx hb hr (fun t ht hW => ⟨⟨_, (fPledge σ n.toNat u (σ (3 + (σ (9 + n.toNat) 11).toNat) 1), fo), rfl, ⟨by rw [h0]; rfl, by rw [h0, hSt, if_pos rfl], fun _ => hfo⟩, by rw [ht]; exact hP, by rw [ht]; exact hO, va_K.moved hW.alike hK⟩, hS.F ht⟩) hS.2.2 dL_pledge_26
set_option maxHeartbeats 4000000 in
set_option maxRecDepth 100000 in
theorem l_sell (l : Launch) (hfl : l.stackTraces = false) (G : va_G) (ad : Nat → Nat) (cy : Nat → ClassId) (hI : cI ad) (ao : Nat) (hao : ∀ j, j < 33 → ao ≠ ad j) (fo : Nat → Int64) (σ : Sg) (hB : cBd σ) (n u : Int) (hn : nB n) (hu : nB u) : lM l yL_sell wsL_sell ({ frames := 8, cells := 4, slots := 24, locals := 129 } : Room) G ad cy ao fo [.ref (ad 0), .int (iI n), .int (iI u), .ref ao] σ (kSell σ n u) 3 (u * σ (3 + (σ (9 + n.toNat) 11).toNat) 1) (fSell σ n.toNat u (σ (3 + (σ (9 + n.toNat) 11).toNat) 1)) 4 := by
  intro sz
  refine va_MetW (cc := cL_sell) (maxL := 5) (ret := (some .int)) (hh := [(0, 10, 13, 13), (0, 10, 17, 15), (0, 10, 21, 24)]) (by decide) rfl ?_
  intro p e s m args below meth cd s₁ B hml hv
  obtain ⟨rfl, hsz, hP, hO, hK, hX, hN3⟩ := hv
  have hx := B.exec
  have hb := B.bytes
  have hr := B.returns
  have hts := atoms_spec (ws := wsL_sell) B.pre
  have hown : s.vm.findClass RL = some m.cls := findClass_of_methodNamed B.named
  have hlocks := B.notSynchronized
  subst hsz
  have htab := vx_table (x := yL_sell) B (hts _ List.mem_cons_self)
  have hS : va_S (oA ad ao s.heap.size) s.heap s.heap [] := va_S.rf
  have hA : ∀ q, s.heap.size ≤ q → oA ad ao s.heap.size q := fun _ h => Or.inr (Or.inr h)
  have hAc : ∀ j, j < 33 → oA ad ao s.heap.size (ad j) := fun j h => Or.inl ⟨j, h, rfl⟩
  have hAo : oA ad ao s.heap.size ao := Or.inr (Or.inl rfl)
  have hl := lv_entry ([.ref (ad 0), .int (iI n), .int (iI u), .ref ao]) (n := 5) (Nat.le_of_ble_eq_true rfl)
  rw [lg_entry_eq]
  generalize (lg_sl ([.ref (ad 0), .int (iI n), .int (iI u), .ref ao]) ++ List.replicate (5 - (lg_sl ([.ref (ad 0), .int (iI n), .int (iI u), .ref ao])).length) Slot.unset).toArray = ls at hl ⊢
  have hl : lv_has ls 5 [(0, .ref (ad 0)), (1, .int (iI n)), (2, .int (iI u)), (3, .ref ao)] := hl
  have lknIO := hts (.classLink RL 13 nIO) (by decide +kernel)
  have lknIA := hts (.classLink RL 15 nIA) (by decide +kernel)
  have lknIS := hts (.classLink RL 24 nIS) (by decide +kernel)
  refine lv_aload_n hx hb dL_sell_0 rfl (lv_at hl 3 rfl) ?_
  refine k_iconst hx hb dL_sell_1 ?_
  refine lv_aload_n hx hb dL_sell_2 rfl (lv_at hl 0 rfl) ?_
  refine lv_iload_n hx hb dL_sell_3 rfl (lv_at hl 1 rfl) ?_
  refine lv_iload_n hx hb dL_sell_4 rfl (lv_at hl 2 rfl) ?_
  refine k_hxi (As := [.int (iI n), .int (iI u)]) (rest := [.int (iI 0), .ref ao]) ⟨hx, hb, hml, hown, hts⟩ (h_sell l hfl G ad cy hI σ hB n u (by assumption) (by assumption)) (cwV 2 hts gL_sell_X2_sell rfl rfl rfl (by decide +kernel) ⟨Nat.le_of_ble_eq_true rfl, Nat.le_of_ble_eq_true rfl⟩) hAc hA hK hX hao hP hO hS rfl hl.1 rfl (Nat.le_of_ble_eq_true rfl) dL_sell_5 ⟨Nat.le_of_ble_eq_true rfl, Nat.le_of_ble_eq_true rfl⟩ (fun E ce q9 H locs hN hP hO hS e1 e2 e3 => ?_) (fun h0 H locs hP hO hS => ?_)
  · rcases hN with ⟨hc, rfl⟩ | ⟨hc, rfl⟩ | ⟨hc, rfl⟩
    · refine vx_catch (name := nIO) hown [] ⟨0, 10, 13, 13⟩ [⟨0, 10, 17, 15⟩, ⟨0, 10, 21, 24⟩] (htab.trans rfl) (fun z h => absurd h List.not_mem_nil) (by decide) (by decide) lknIO (xB_use hX.2.1 (.castable nIO nIO) (by decide +kernel)) e1 e2 e3 ?_
      refine lv_astore (lv' := [(4, .ref q9), (0, .ref (ad 0)), (1, .int (iI n)), (2, .int (iI u)), (3, .ref ao)]) hx hb dL_sell_13 hl (by decide) rfl (fun ls hl => ?_)
      refine k_iconst hx hb dL_sell_15 ?_
      refine W.widen (k := 4) (n := 6 * 4) (Nat.le_of_ble_eq_true rfl) (Nat.le_of_ble_eq_true rfl) ?_
      exact W.iret hx hb hr (fun t ht hW => ⟨⟨_, (σ, fo), rfl, ⟨by rw [hc]; rfl, by rw [hc]; rfl, fun h => absurd (hc.symm.trans h) (by decide)⟩, by rw [ht]; exact hP, by rw [ht]; exact hO, va_K.moved hW.alike hK⟩, hS.F ht⟩) hS.2.2 dL_sell_16
    · refine vx_catch (name := nIA) hown [⟨0, 10, 13, 13⟩] ⟨0, 10, 17, 15⟩ [⟨0, 10, 21, 24⟩] (htab.trans rfl) (List.forall_mem_cons.mpr ⟨Or.inr ⟨by decide, nIO, lknIO, hN3.1⟩, (fun _ h => absurd h List.not_mem_nil)⟩) (by decide) (by decide) lknIA (xB_use hX.2.1 (.castable nIA nIA) (by decide +kernel)) e1 e2 e3 ?_
      refine lv_astore (lv' := [(4, .ref q9), (0, .ref (ad 0)), (1, .int (iI n)), (2, .int (iI u)), (3, .ref ao)]) hx hb dL_sell_17 hl (by decide) rfl (fun ls hl => ?_)
      refine k_iconst hx hb dL_sell_19 ?_
      refine W.widen (k := 4) (n := 6 * 4) (Nat.le_of_ble_eq_true rfl) (Nat.le_of_ble_eq_true rfl) ?_
      exact W.iret hx hb hr (fun t ht hW => ⟨⟨_, (σ, fo), rfl, ⟨by rw [hc]; rfl, by rw [hc]; rfl, fun h => absurd (hc.symm.trans h) (by decide)⟩, by rw [ht]; exact hP, by rw [ht]; exact hO, va_K.moved hW.alike hK⟩, hS.F ht⟩) hS.2.2 dL_sell_20
    · refine vx_catch (name := nIS) hown [⟨0, 10, 13, 13⟩, ⟨0, 10, 17, 15⟩] ⟨0, 10, 21, 24⟩ [] (htab.trans rfl) (List.forall_mem_cons.mpr ⟨Or.inr ⟨by decide, nIO, lknIO, hN3.2.1⟩, (List.forall_mem_cons.mpr ⟨Or.inr ⟨by decide, nIA, lknIA, hN3.2.2⟩, (fun _ h => absurd h List.not_mem_nil)⟩)⟩) (by decide) (by decide) lknIS (xB_use hX.2.1 (.castable nIS nIS) (by decide +kernel)) e1 e2 e3 ?_
      refine lv_astore (lv' := [(4, .ref q9), (0, .ref (ad 0)), (1, .int (iI n)), (2, .int (iI u)), (3, .ref ao)]) hx hb dL_sell_21 hl (by decide) rfl (fun ls hl => ?_)
      refine k_iconst hx hb dL_sell_23 ?_
      refine W.widen (k := 4) (n := 6 * 4) (Nat.le_of_ble_eq_true rfl) (Nat.le_of_ble_eq_true rfl) ?_
      exact W.iret hx hb hr (fun t ht hW => ⟨⟨_, (σ, fo), rfl, ⟨by rw [hc]; rfl, by rw [hc]; rfl, fun h => absurd (hc.symm.trans h) (by decide)⟩, by rw [ht]; exact hP, by rw [ht]; exact hO, va_K.moved hW.alike hK⟩, hS.F ht⟩) hS.2.2 dL_sell_24
  · refine lv_i2l hx hb dL_sell_8 rfl ?_
    refine k_ost hx hb hAo hao hK hP hO hS hI hAc dL_sell_9 (fun H locs fo hfo hP hO hS => ?_)
    refine lv_goto (tgt := 25) hx hb dL_sell_10 (by decide) ?_
    refine k_iconst hx hb dL_sell_25 ?_
    refine W.widen (k := 4) (n := 6 * 4) (Nat.le_of_ble_eq_true rfl) (Nat.le_of_ble_eq_true rfl) ?_
    exact W.iret hx hb hr (fun t ht hW => ⟨⟨_, (fSell σ n.toNat u (σ (3 + (σ (9 + n.toNat) 11).toNat) 1), fo), rfl, ⟨by rw [h0]; rfl, by rw [h0, hSt, if_pos rfl], fun _ => hfo⟩, by rw [ht]; exact hP, by rw [ht]; exact hO, va_K.moved hW.alike hK⟩, hS.F ht⟩) hS.2.2 dL_sell_26
set_option maxHeartbeats 4000000 in
set_option maxRecDepth 100000 in
theorem l_repay (l : Launch) (hfl : l.stackTraces = false) (G : va_G) (ad : Nat → Nat) (cy : Nat → ClassId) (hI : cI ad) (ao : Nat) (hao : ∀ j, j < 33 → ao ≠ ad j) (fo : Nat → Int64) (σ : Sg) (hB : cBd σ) (n x : Int) (hn : nB n) (hx : nB x) : lM l yL_repay wsL_repay ({ frames := 8, cells := 3, slots := 18, locals := 129 } : Room) G ad cy ao fo [.ref (ad 0), .int (iI n), .int (iI x), .ref ao] σ (kRepay σ n x) 3 (σ (9 + n.toNat) 2 - x) (fRepay σ n.toNat x) 3 := by
  intro sz
  refine va_MetW (cc := cL_repay) (maxL := 5) (ret := (some .int)) (hh := [(0, 10, 13, 13), (0, 10, 17, 15), (0, 10, 21, 24)]) (by decide) rfl ?_
  intro p e s m args below meth cd s₁ B hml hv
  obtain ⟨rfl, hsz, hP, hO, hK, hX, hN3⟩ := hv
  have hx := B.exec
  have hb := B.bytes
  have hr := B.returns
  have hts := atoms_spec (ws := wsL_repay) B.pre
  have hown : s.vm.findClass RL = some m.cls := findClass_of_methodNamed B.named
  have hlocks := B.notSynchronized
  subst hsz
  have htab := vx_table (x := yL_repay) B (hts _ List.mem_cons_self)
  have hS : va_S (oA ad ao s.heap.size) s.heap s.heap [] := va_S.rf
  have hA : ∀ q, s.heap.size ≤ q → oA ad ao s.heap.size q := fun _ h => Or.inr (Or.inr h)
  have hAc : ∀ j, j < 33 → oA ad ao s.heap.size (ad j) := fun j h => Or.inl ⟨j, h, rfl⟩
  have hAo : oA ad ao s.heap.size ao := Or.inr (Or.inl rfl)
  have hl := lv_entry ([.ref (ad 0), .int (iI n), .int (iI x), .ref ao]) (n := 5) (Nat.le_of_ble_eq_true rfl)
  rw [lg_entry_eq]
  generalize (lg_sl ([.ref (ad 0), .int (iI n), .int (iI x), .ref ao]) ++ List.replicate (5 - (lg_sl ([.ref (ad 0), .int (iI n), .int (iI x), .ref ao])).length) Slot.unset).toArray = ls at hl ⊢
  have hl : lv_has ls 5 [(0, .ref (ad 0)), (1, .int (iI n)), (2, .int (iI x)), (3, .ref ao)] := hl
  have lknIO := hts (.classLink RL 13 nIO) (by decide +kernel)
  have lknIA := hts (.classLink RL 15 nIA) (by decide +kernel)
  have lknIS := hts (.classLink RL 24 nIS) (by decide +kernel)
  refine lv_aload_n hx hb dL_repay_0 rfl (lv_at hl 3 rfl) ?_
  refine k_iconst hx hb dL_repay_1 ?_
  refine lv_aload_n hx hb dL_repay_2 rfl (lv_at hl 0 rfl) ?_
  refine lv_iload_n hx hb dL_repay_3 rfl (lv_at hl 1 rfl) ?_
  refine lv_iload_n hx hb dL_repay_4 rfl (lv_at hl 2 rfl) ?_
  refine k_hxi (As := [.int (iI n), .int (iI x)]) (rest := [.int (iI 0), .ref ao]) ⟨hx, hb, hml, hown, hts⟩ (h_repay l hfl G ad cy hI σ hB n x (by assumption) (by assumption)) (cwV 2 hts gL_repay_X2_repay rfl rfl rfl (by decide +kernel) ⟨Nat.le_of_ble_eq_true rfl, Nat.le_of_ble_eq_true rfl⟩) hAc hA hK hX hao hP hO hS rfl hl.1 rfl (Nat.le_of_ble_eq_true rfl) dL_repay_5 ⟨Nat.le_of_ble_eq_true rfl, Nat.le_of_ble_eq_true rfl⟩ (fun E ce q9 H locs hN hP hO hS e1 e2 e3 => ?_) (fun h0 H locs hP hO hS => ?_)
  · rcases hN with ⟨hc, rfl⟩ | ⟨hc, rfl⟩ | ⟨hc, rfl⟩
    · refine vx_catch (name := nIO) hown [] ⟨0, 10, 13, 13⟩ [⟨0, 10, 17, 15⟩, ⟨0, 10, 21, 24⟩] (htab.trans rfl) (fun z h => absurd h List.not_mem_nil) (by decide) (by decide) lknIO (xB_use hX.2.1 (.castable nIO nIO) (by decide +kernel)) e1 e2 e3 ?_
      refine lv_astore (lv' := [(4, .ref q9), (0, .ref (ad 0)), (1, .int (iI n)), (2, .int (iI x)), (3, .ref ao)]) hx hb dL_repay_13 hl (by decide) rfl (fun ls hl => ?_)
      refine k_iconst hx hb dL_repay_15 ?_
      refine W.widen (k := 3) (n := 6 * 3) (Nat.le_of_ble_eq_true rfl) (Nat.le_of_ble_eq_true rfl) ?_
      exact W.iret hx hb hr (fun t ht hW => ⟨⟨_, (σ, fo), rfl, ⟨by rw [hc]; rfl, by rw [hc]; rfl, fun h => absurd (hc.symm.trans h) (by decide)⟩, by rw [ht]; exact hP, by rw [ht]; exact hO, va_K.moved hW.alike hK⟩, hS.F ht⟩) hS.2.2 dL_repay_16
    · refine vx_catch (name := nIA) hown [⟨0, 10, 13, 13⟩] ⟨0, 10, 17, 15⟩ [⟨0, 10, 21, 24⟩] (htab.trans rfl) (List.forall_mem_cons.mpr ⟨Or.inr ⟨by decide, nIO, lknIO, hN3.1⟩, (fun _ h => absurd h List.not_mem_nil)⟩) (by decide) (by decide) lknIA (xB_use hX.2.1 (.castable nIA nIA) (by decide +kernel)) e1 e2 e3 ?_
      refine lv_astore (lv' := [(4, .ref q9), (0, .ref (ad 0)), (1, .int (iI n)), (2, .int (iI x)), (3, .ref ao)]) hx hb dL_repay_17 hl (by decide) rfl (fun ls hl => ?_)
      refine k_iconst hx hb dL_repay_19 ?_
      refine W.widen (k := 3) (n := 6 * 3) (Nat.le_of_ble_eq_true rfl) (Nat.le_of_ble_eq_true rfl) ?_
      exact W.iret hx hb hr (fun t ht hW => ⟨⟨_, (σ, fo), rfl, ⟨by rw [hc]; rfl, by rw [hc]; rfl, fun h => absurd (hc.symm.trans h) (by decide)⟩, by rw [ht]; exact hP, by rw [ht]; exact hO, va_K.moved hW.alike hK⟩, hS.F ht⟩) hS.2.2 dL_repay_20
    · refine vx_catch (name := nIS) hown [⟨0, 10, 13, 13⟩, ⟨0, 10, 17, 15⟩] ⟨0, 10, 21, 24⟩ [] (htab.trans rfl) (List.forall_mem_cons.mpr ⟨Or.inr ⟨by decide, nIO, lknIO, hN3.2.1⟩, (List.forall_mem_cons.mpr ⟨Or.inr ⟨by decide, nIA, lknIA, hN3.2.2⟩, (fun _ h => absurd h List.not_mem_nil)⟩)⟩) (by decide) (by decide) lknIS (xB_use hX.2.1 (.castable nIS nIS) (by decide +kernel)) e1 e2 e3 ?_
      refine lv_astore (lv' := [(4, .ref q9), (0, .ref (ad 0)), (1, .int (iI n)), (2, .int (iI x)), (3, .ref ao)]) hx hb dL_repay_21 hl (by decide) rfl (fun ls hl => ?_)
      refine k_iconst hx hb dL_repay_23 ?_
      refine W.widen (k := 3) (n := 6 * 3) (Nat.le_of_ble_eq_true rfl) (Nat.le_of_ble_eq_true rfl) ?_
      exact W.iret hx hb hr (fun t ht hW => ⟨⟨_, (σ, fo), rfl, ⟨by rw [hc]; rfl, by rw [hc]; rfl, fun h => absurd (hc.symm.trans h) (by decide)⟩, by rw [ht]; exact hP, by rw [ht]; exact hO, va_K.moved hW.alike hK⟩, hS.F ht⟩) hS.2.2 dL_repay_24
  · refine lv_i2l hx hb dL_repay_8 rfl ?_
    refine k_ost hx hb hAo hao hK hP hO hS hI hAc dL_repay_9 (fun H locs fo hfo hP hO hS => ?_)
    refine lv_goto (tgt := 25) hx hb dL_repay_10 (by decide) ?_
    refine k_iconst hx hb dL_repay_25 ?_
    refine W.widen (k := 3) (n := 6 * 3) (Nat.le_of_ble_eq_true rfl) (Nat.le_of_ble_eq_true rfl) ?_
    exact W.iret hx hb hr (fun t ht hW => ⟨⟨_, (fRepay σ n.toNat x, fo), rfl, ⟨by rw [h0]; rfl, by rw [h0, hSt, if_pos rfl], fun _ => hfo⟩, by rw [ht]; exact hP, by rw [ht]; exact hO, va_K.moved hW.alike hK⟩, hS.F ht⟩) hS.2.2 dL_repay_26
set_option maxHeartbeats 4000000 in
set_option maxRecDepth 100000 in
theorem l_close (l : Launch) (hfl : l.stackTraces = false) (G : va_G) (ad : Nat → Nat) (cy : Nat → ClassId) (hI : cI ad) (ao : Nat) (hao : ∀ j, j < 33 → ao ≠ ad j) (fo : Nat → Int64) (σ : Sg) (hB : cBd σ)  : lM l yL_close wsL_close ({ frames := 8, cells := 1, slots := 6, locals := 125 } : Room) G ad cy ao fo [.ref (ad 0), .ref ao] σ (kClose σ) 1 (σ 0 3 + 1) (fClose σ) 1 := by
  intro sz
  refine va_MetW (cc := cL_close) (maxL := 3) (ret := (some .int)) (hh := [(0, 8, 11, 24)]) (by decide) rfl ?_
  intro p e s m args below meth cd s₁ B hml hv
  obtain ⟨rfl, hsz, hP, hO, hK, hX, hN3⟩ := hv
  have hx := B.exec
  have hb := B.bytes
  have hr := B.returns
  have hts := atoms_spec (ws := wsL_close) B.pre
  have hown : s.vm.findClass RL = some m.cls := findClass_of_methodNamed B.named
  have hlocks := B.notSynchronized
  subst hsz
  have htab := vx_table (x := yL_close) B (hts _ List.mem_cons_self)
  have hS : va_S (oA ad ao s.heap.size) s.heap s.heap [] := va_S.rf
  have hA : ∀ q, s.heap.size ≤ q → oA ad ao s.heap.size q := fun _ h => Or.inr (Or.inr h)
  have hAc : ∀ j, j < 33 → oA ad ao s.heap.size (ad j) := fun j h => Or.inl ⟨j, h, rfl⟩
  have hAo : oA ad ao s.heap.size ao := Or.inr (Or.inl rfl)
  have hl := lv_entry ([.ref (ad 0), .ref ao]) (n := 3) (Nat.le_of_ble_eq_true rfl)
  rw [lg_entry_eq]
  generalize (lg_sl ([.ref (ad 0), .ref ao]) ++ List.replicate (3 - (lg_sl ([.ref (ad 0), .ref ao])).length) Slot.unset).toArray = ls at hl ⊢
  have hl : lv_has ls 3 [(0, .ref (ad 0)), (1, .ref ao)] := hl
  have lknIS := hts (.classLink RL 24 nIS) (by decide +kernel)
  refine lv_aload_n hx hb dL_close_0 rfl (lv_at hl 1 rfl) ?_
  refine k_iconst hx hb dL_close_1 ?_
  refine lv_aload_n hx hb dL_close_2 rfl (lv_at hl 0 rfl) ?_
  refine k_hxi (As := []) (rest := [.int (iI 0), .ref ao]) ⟨hx, hb, hml, hown, hts⟩ (h_close l hfl G ad cy hI σ hB  ) (cwV 0 hts gL_close_X2_close rfl rfl rfl (by decide +kernel) ⟨Nat.le_of_ble_eq_true rfl, Nat.le_of_ble_eq_true rfl⟩) hAc hA hK hX hao hP hO hS rfl hl.1 rfl (Nat.le_of_ble_eq_true rfl) dL_close_3 ⟨Nat.le_of_ble_eq_true rfl, Nat.le_of_ble_eq_true rfl⟩ (fun E ce q9 H locs hN hP hO hS e1 e2 e3 => ?_) (fun h0 H locs hP hO hS => ?_)
  · rcases hN with ⟨hc, rfl⟩ | ⟨hc, rfl⟩ | ⟨hc, rfl⟩
    · exact absurd hc ((n_close _).1)
    · exact absurd hc ((n_close _).2)
    · refine vx_catch (name := nIS) hown [] ⟨0, 8, 11, 24⟩ [] (htab.trans rfl) (fun z h => absurd h List.not_mem_nil) (by decide) (by decide) lknIS (xB_use hX.2.1 (.castable nIS nIS) (by decide +kernel)) e1 e2 e3 ?_
      refine lv_astore_n (lv' := [(2, .ref q9), (0, .ref (ad 0)), (1, .ref ao)]) hx hb dL_close_11 rfl hl (by decide) rfl (fun ls hl => ?_)
      refine k_iconst hx hb dL_close_12 ?_
      refine W.widen (k := 1) (n := 6 * 1) (Nat.le_of_ble_eq_true rfl) (Nat.le_of_ble_eq_true rfl) ?_
      exact W.iret hx hb hr (fun t ht hW => ⟨⟨_, (σ, fo), rfl, ⟨by rw [hc]; rfl, by rw [hc]; rfl, fun h => absurd (hc.symm.trans h) (by decide)⟩, by rw [ht]; exact hP, by rw [ht]; exact hO, va_K.moved hW.alike hK⟩, hS.F ht⟩) hS.2.2 dL_close_13
  · refine lv_i2l hx hb dL_close_6 rfl ?_
    refine k_ost hx hb hAo hao hK hP hO hS hI hAc dL_close_7 (fun H locs fo hfo hP hO hS => ?_)
    refine lv_goto (tgt := 14) hx hb dL_close_8 (by decide) ?_
    refine k_iconst hx hb dL_close_14 ?_
    refine W.widen (k := 1) (n := 6 * 1) (Nat.le_of_ble_eq_true rfl) (Nat.le_of_ble_eq_true rfl) ?_
    exact W.iret hx hb hr (fun t ht hW => ⟨⟨_, (fClose σ, fo), rfl, ⟨by rw [h0]; rfl, by rw [h0, hSt, if_pos rfl], fun _ => hfo⟩, by rw [ht]; exact hP, by rw [ht]; exact hO, va_K.moved hW.alike hK⟩, hS.F ht⟩) hS.2.2 dL_close_15
set_option maxHeartbeats 4000000 in
set_option maxRecDepth 100000 in
theorem l_limit (l : Launch) (hfl : l.stackTraces = false) (G : va_G) (ad : Nat → Nat) (cy : Nat → ClassId) (hI : cI ad) (ao : Nat) (hao : ∀ j, j < 33 → ao ≠ ad j) (fo : Nat → Int64) (σ : Sg) (hB : cBd σ) (n : Int) (hn : nB n) : lM l yL_limit wsL_limit ({ frames := 9, cells := 2, slots := 12, locals := 147 } : Room) G ad cy ao fo [.ref (ad 0), .int (iI n), .ref ao] σ (cFarm σ n) 3 (fLimit σ n.toNat) σ 2 := by
  intro sz
  refine va_MetW (cc := cL_limit) (maxL := 4) (ret := (some .int)) (hh := [(0, 9, 12, 13)]) (by decide) rfl ?_
  intro p e s m args below meth cd s₁ B hml hv
  obtain ⟨rfl, hsz, hP, hO, hK, hX, hN3⟩ := hv
  have hx := B.exec
  have hb := B.bytes
  have hr := B.returns
  have hts := atoms_spec (ws := wsL_limit) B.pre
  have hown : s.vm.findClass RL = some m.cls := findClass_of_methodNamed B.named
  have hlocks := B.notSynchronized
  subst hsz
  have htab := vx_table (x := yL_limit) B (hts _ List.mem_cons_self)
  have hS : va_S (oA ad ao s.heap.size) s.heap s.heap [] := va_S.rf
  have hA : ∀ q, s.heap.size ≤ q → oA ad ao s.heap.size q := fun _ h => Or.inr (Or.inr h)
  have hAc : ∀ j, j < 33 → oA ad ao s.heap.size (ad j) := fun j h => Or.inl ⟨j, h, rfl⟩
  have hAo : oA ad ao s.heap.size ao := Or.inr (Or.inl rfl)
  have hl := lv_entry ([.ref (ad 0), .int (iI n), .ref ao]) (n := 4) (Nat.le_of_ble_eq_true rfl)
  rw [lg_entry_eq]
  generalize (lg_sl ([.ref (ad 0), .int (iI n), .ref ao]) ++ List.replicate (4 - (lg_sl ([.ref (ad 0), .int (iI n), .ref ao])).length) Slot.unset).toArray = ls at hl ⊢
  have hl : lv_has ls 4 [(0, .ref (ad 0)), (1, .int (iI n)), (2, .ref ao)] := hl
  have lknIO := hts (.classLink RL 13 nIO) (by decide +kernel)
  refine lv_aload_n hx hb dL_limit_0 rfl (lv_at hl 2 rfl) ?_
  refine k_iconst hx hb dL_limit_1 ?_
  refine lv_aload_n hx hb dL_limit_2 rfl (lv_at hl 0 rfl) ?_
  refine lv_iload_n hx hb dL_limit_3 rfl (lv_at hl 1 rfl) ?_
  refine k_hxi (As := [.int (iI n)]) (rest := [.int (iI 0), .ref ao]) ⟨hx, hb, hml, hown, hts⟩ (h_limit l hfl G ad cy hI σ hB n (by assumption)) (cwV 1 hts gL_limit_X2_limit rfl rfl rfl (by decide +kernel) ⟨Nat.le_of_ble_eq_true rfl, Nat.le_of_ble_eq_true rfl⟩) hAc hA hK hX hao hP hO hS rfl hl.1 rfl (Nat.le_of_ble_eq_true rfl) dL_limit_4 ⟨Nat.le_of_ble_eq_true rfl, Nat.le_of_ble_eq_true rfl⟩ (fun E ce q9 H locs hN hP hO hS e1 e2 e3 => ?_) (fun h0 H locs hP hO hS => ?_)
  · rcases hN with ⟨hc, rfl⟩ | ⟨hc, rfl⟩ | ⟨hc, rfl⟩
    · refine vx_catch (name := nIO) hown [] ⟨0, 9, 12, 13⟩ [] (htab.trans rfl) (fun z h => absurd h List.not_mem_nil) (by decide) (by decide) lknIO (xB_use hX.2.1 (.castable nIO nIO) (by decide +kernel)) e1 e2 e3 ?_
      refine lv_astore_n (lv' := [(3, .ref q9), (0, .ref (ad 0)), (1, .int (iI n)), (2, .ref ao)]) hx hb dL_limit_12 rfl hl (by decide) rfl (fun ls hl => ?_)
      refine k_iconst hx hb dL_limit_13 ?_
      refine W.widen (k := 2) (n := 6 * 2) (Nat.le_of_ble_eq_true rfl) (Nat.le_of_ble_eq_true rfl) ?_
      exact W.iret hx hb hr (fun t ht hW => ⟨⟨_, (σ, fo), rfl, ⟨by rw [hc]; rfl, by rw [hc]; rfl, fun h => absurd (hc.symm.trans h) (by decide)⟩, by rw [ht]; exact hP, by rw [ht]; exact hO, va_K.moved hW.alike hK⟩, hS.F ht⟩) hS.2.2 dL_limit_14
    · exact absurd hc ((n_farm _ _).1)
    · exact absurd hc ((n_farm _ _).2)
  · refine lv_i2l hx hb dL_limit_7 rfl ?_
    refine k_ost hx hb hAo hao hK hP hO hS hI hAc dL_limit_8 (fun H locs fo hfo hP hO hS => ?_)
    refine lv_goto (tgt := 15) hx hb dL_limit_9 (by decide) ?_
    refine k_iconst hx hb dL_limit_15 ?_
    refine W.widen (k := 2) (n := 6 * 2) (Nat.le_of_ble_eq_true rfl) (Nat.le_of_ble_eq_true rfl) ?_
    exact W.iret hx hb hr (fun t ht hW => ⟨⟨_, (σ, fo), rfl, ⟨by rw [h0]; rfl, by rw [h0, hSt, if_pos rfl], fun _ => hfo⟩, by rw [ht]; exact hP, by rw [ht]; exact hO, va_K.moved hW.alike hK⟩, hS.F ht⟩) hS.2.2 dL_limit_16
set_option maxHeartbeats 4000000 in
set_option maxRecDepth 100000 in
theorem l_debt (l : Launch) (hfl : l.stackTraces = false) (G : va_G) (ad : Nat → Nat) (cy : Nat → ClassId) (hI : cI ad) (ao : Nat) (hao : ∀ j, j < 33 → ao ≠ ad j) (fo : Nat → Int64) (σ : Sg) (hB : cBd σ) (n : Int) (hn : nB n) : lM l yL_debt wsL_debt ({ frames := 8, cells := 1, slots := 6, locals := 126 } : Room) G ad cy ao fo [.ref (ad 0), .int (iI n), .ref ao] σ (cFarm σ n) 3 (σ (9 + n.toNat) 2) σ 1 := by
  intro sz
  refine va_MetW (cc := cL_debt) (maxL := 4) (ret := (some .int)) (hh := [(0, 9, 12, 13)]) (by decide) rfl ?_
  intro p e s m args below meth cd s₁ B hml hv
  obtain ⟨rfl, hsz, hP, hO, hK, hX, hN3⟩ := hv
  have hx := B.exec
  have hb := B.bytes
  have hr := B.returns
  have hts := atoms_spec (ws := wsL_debt) B.pre
  have hown : s.vm.findClass RL = some m.cls := findClass_of_methodNamed B.named
  have hlocks := B.notSynchronized
  subst hsz
  have htab := vx_table (x := yL_debt) B (hts _ List.mem_cons_self)
  have hS : va_S (oA ad ao s.heap.size) s.heap s.heap [] := va_S.rf
  have hA : ∀ q, s.heap.size ≤ q → oA ad ao s.heap.size q := fun _ h => Or.inr (Or.inr h)
  have hAc : ∀ j, j < 33 → oA ad ao s.heap.size (ad j) := fun j h => Or.inl ⟨j, h, rfl⟩
  have hAo : oA ad ao s.heap.size ao := Or.inr (Or.inl rfl)
  have hl := lv_entry ([.ref (ad 0), .int (iI n), .ref ao]) (n := 4) (Nat.le_of_ble_eq_true rfl)
  rw [lg_entry_eq]
  generalize (lg_sl ([.ref (ad 0), .int (iI n), .ref ao]) ++ List.replicate (4 - (lg_sl ([.ref (ad 0), .int (iI n), .ref ao])).length) Slot.unset).toArray = ls at hl ⊢
  have hl : lv_has ls 4 [(0, .ref (ad 0)), (1, .int (iI n)), (2, .ref ao)] := hl
  have lknIO := hts (.classLink RL 13 nIO) (by decide +kernel)
  refine lv_aload_n hx hb dL_debt_0 rfl (lv_at hl 2 rfl) ?_
  refine k_iconst hx hb dL_debt_1 ?_
  refine lv_aload_n hx hb dL_debt_2 rfl (lv_at hl 0 rfl) ?_
  refine lv_iload_n hx hb dL_debt_3 rfl (lv_at hl 1 rfl) ?_
  refine k_hxi (As := [.int (iI n)]) (rest := [.int (iI 0), .ref ao]) ⟨hx, hb, hml, hown, hts⟩ (h_debt l hfl G ad cy hI σ hB n (by assumption)) (cwV 1 hts gL_debt_X2_debt rfl rfl rfl (by decide +kernel) ⟨Nat.le_of_ble_eq_true rfl, Nat.le_of_ble_eq_true rfl⟩) hAc hA hK hX hao hP hO hS rfl hl.1 rfl (Nat.le_of_ble_eq_true rfl) dL_debt_4 ⟨Nat.le_of_ble_eq_true rfl, Nat.le_of_ble_eq_true rfl⟩ (fun E ce q9 H locs hN hP hO hS e1 e2 e3 => ?_) (fun h0 H locs hP hO hS => ?_)
  · rcases hN with ⟨hc, rfl⟩ | ⟨hc, rfl⟩ | ⟨hc, rfl⟩
    · refine vx_catch (name := nIO) hown [] ⟨0, 9, 12, 13⟩ [] (htab.trans rfl) (fun z h => absurd h List.not_mem_nil) (by decide) (by decide) lknIO (xB_use hX.2.1 (.castable nIO nIO) (by decide +kernel)) e1 e2 e3 ?_
      refine lv_astore_n (lv' := [(3, .ref q9), (0, .ref (ad 0)), (1, .int (iI n)), (2, .ref ao)]) hx hb dL_debt_12 rfl hl (by decide) rfl (fun ls hl => ?_)
      refine k_iconst hx hb dL_debt_13 ?_
      refine W.widen (k := 1) (n := 6 * 1) (Nat.le_of_ble_eq_true rfl) (Nat.le_of_ble_eq_true rfl) ?_
      exact W.iret hx hb hr (fun t ht hW => ⟨⟨_, (σ, fo), rfl, ⟨by rw [hc]; rfl, by rw [hc]; rfl, fun h => absurd (hc.symm.trans h) (by decide)⟩, by rw [ht]; exact hP, by rw [ht]; exact hO, va_K.moved hW.alike hK⟩, hS.F ht⟩) hS.2.2 dL_debt_14
    · exact absurd hc ((n_farm _ _).1)
    · exact absurd hc ((n_farm _ _).2)
  · refine lv_i2l hx hb dL_debt_7 rfl ?_
    refine k_ost hx hb hAo hao hK hP hO hS hI hAc dL_debt_8 (fun H locs fo hfo hP hO hS => ?_)
    refine lv_goto (tgt := 15) hx hb dL_debt_9 (by decide) ?_
    refine k_iconst hx hb dL_debt_15 ?_
    refine W.widen (k := 1) (n := 6 * 1) (Nat.le_of_ble_eq_true rfl) (Nat.le_of_ble_eq_true rfl) ?_
    exact W.iret hx hb hr (fun t ht hW => ⟨⟨_, (σ, fo), rfl, ⟨by rw [h0]; rfl, by rw [h0, hSt, if_pos rfl], fun _ => hfo⟩, by rw [ht]; exact hP, by rw [ht]; exact hO, va_K.moved hW.alike hK⟩, hS.F ht⟩) hS.2.2 dL_debt_16
set_option maxHeartbeats 4000000 in
set_option maxRecDepth 100000 in
theorem l_owes (l : Launch) (hfl : l.stackTraces = false) (G : va_G) (ad : Nat → Nat) (cy : Nat → ClassId) (hI : cI ad) (ao : Nat) (hao : ∀ j, j < 33 → ao ≠ ad j) (fo : Nat → Int64) (σ : Sg) (hB : cBd σ) (n : Int) (hn : nB n) : lM l yL_owes wsL_owes ({ frames := 8, cells := 1, slots := 6, locals := 127 } : Room) G ad cy ao fo [.ref (ad 0), .int (iI n), .ref ao] σ (cFarm σ n) 3 (σ (9 + n.toNat) 2 + σ (9 + n.toNat) 3 + fSum σ n.toNat 3) σ 1 := by
  intro sz
  refine va_MetW (cc := cL_owes) (maxL := 4) (ret := (some .int)) (hh := [(0, 9, 12, 13)]) (by decide) rfl ?_
  intro p e s m args below meth cd s₁ B hml hv
  obtain ⟨rfl, hsz, hP, hO, hK, hX, hN3⟩ := hv
  have hx := B.exec
  have hb := B.bytes
  have hr := B.returns
  have hts := atoms_spec (ws := wsL_owes) B.pre
  have hown : s.vm.findClass RL = some m.cls := findClass_of_methodNamed B.named
  have hlocks := B.notSynchronized
  subst hsz
  have htab := vx_table (x := yL_owes) B (hts _ List.mem_cons_self)
  have hS : va_S (oA ad ao s.heap.size) s.heap s.heap [] := va_S.rf
  have hA : ∀ q, s.heap.size ≤ q → oA ad ao s.heap.size q := fun _ h => Or.inr (Or.inr h)
  have hAc : ∀ j, j < 33 → oA ad ao s.heap.size (ad j) := fun j h => Or.inl ⟨j, h, rfl⟩
  have hAo : oA ad ao s.heap.size ao := Or.inr (Or.inl rfl)
  have hl := lv_entry ([.ref (ad 0), .int (iI n), .ref ao]) (n := 4) (Nat.le_of_ble_eq_true rfl)
  rw [lg_entry_eq]
  generalize (lg_sl ([.ref (ad 0), .int (iI n), .ref ao]) ++ List.replicate (4 - (lg_sl ([.ref (ad 0), .int (iI n), .ref ao])).length) Slot.unset).toArray = ls at hl ⊢
  have hl : lv_has ls 4 [(0, .ref (ad 0)), (1, .int (iI n)), (2, .ref ao)] := hl
  have lknIO := hts (.classLink RL 13 nIO) (by decide +kernel)
  refine lv_aload_n hx hb dL_owes_0 rfl (lv_at hl 2 rfl) ?_
  refine k_iconst hx hb dL_owes_1 ?_
  refine lv_aload_n hx hb dL_owes_2 rfl (lv_at hl 0 rfl) ?_
  refine lv_iload_n hx hb dL_owes_3 rfl (lv_at hl 1 rfl) ?_
  refine k_hxi (As := [.int (iI n)]) (rest := [.int (iI 0), .ref ao]) ⟨hx, hb, hml, hown, hts⟩ (h_owes l hfl G ad cy hI σ hB n (by assumption)) (cwV 1 hts gL_owes_X2_owes rfl rfl rfl (by decide +kernel) ⟨Nat.le_of_ble_eq_true rfl, Nat.le_of_ble_eq_true rfl⟩) hAc hA hK hX hao hP hO hS rfl hl.1 rfl (Nat.le_of_ble_eq_true rfl) dL_owes_4 ⟨Nat.le_of_ble_eq_true rfl, Nat.le_of_ble_eq_true rfl⟩ (fun E ce q9 H locs hN hP hO hS e1 e2 e3 => ?_) (fun h0 H locs hP hO hS => ?_)
  · rcases hN with ⟨hc, rfl⟩ | ⟨hc, rfl⟩ | ⟨hc, rfl⟩
    · refine vx_catch (name := nIO) hown [] ⟨0, 9, 12, 13⟩ [] (htab.trans rfl) (fun z h => absurd h List.not_mem_nil) (by decide) (by decide) lknIO (xB_use hX.2.1 (.castable nIO nIO) (by decide +kernel)) e1 e2 e3 ?_
      refine lv_astore_n (lv' := [(3, .ref q9), (0, .ref (ad 0)), (1, .int (iI n)), (2, .ref ao)]) hx hb dL_owes_12 rfl hl (by decide) rfl (fun ls hl => ?_)
      refine k_iconst hx hb dL_owes_13 ?_
      refine W.widen (k := 1) (n := 6 * 1) (Nat.le_of_ble_eq_true rfl) (Nat.le_of_ble_eq_true rfl) ?_
      exact W.iret hx hb hr (fun t ht hW => ⟨⟨_, (σ, fo), rfl, ⟨by rw [hc]; rfl, by rw [hc]; rfl, fun h => absurd (hc.symm.trans h) (by decide)⟩, by rw [ht]; exact hP, by rw [ht]; exact hO, va_K.moved hW.alike hK⟩, hS.F ht⟩) hS.2.2 dL_owes_14
    · exact absurd hc ((n_farm _ _).1)
    · exact absurd hc ((n_farm _ _).2)
  · refine lv_i2l hx hb dL_owes_7 rfl ?_
    refine k_ost hx hb hAo hao hK hP hO hS hI hAc dL_owes_8 (fun H locs fo hfo hP hO hS => ?_)
    refine lv_goto (tgt := 15) hx hb dL_owes_9 (by decide) ?_
    refine k_iconst hx hb dL_owes_15 ?_
    refine W.widen (k := 1) (n := 6 * 1) (Nat.le_of_ble_eq_true rfl) (Nat.le_of_ble_eq_true rfl) ?_
    exact W.iret hx hb hr (fun t ht hW => ⟨⟨_, (σ, fo), rfl, ⟨by rw [h0]; rfl, by rw [h0, hSt, if_pos rfl], fun _ => hfo⟩, by rw [ht]; exact hP, by rw [ht]; exact hO, va_K.moved hW.alike hK⟩, hS.F ht⟩) hS.2.2 dL_owes_16
set_option maxHeartbeats 4000000 in
set_option maxRecDepth 100000 in
theorem l_instalments (l : Launch) (hfl : l.stackTraces = false) (G : va_G) (ad : Nat → Nat) (cy : Nat → ClassId) (hI : cI ad) (ao : Nat) (hao : ∀ j, j < 33 → ao ≠ ad j) (fo : Nat → Int64) (σ : Sg) (hB : cBd σ) (n : Int) (hn : nB n) : lM l yL_instalments wsL_instalments ({ frames := 8, cells := 1, slots := 6, locals := 126 } : Room) G ad cy ao fo [.ref (ad 0), .int (iI n), .ref ao] σ (cFarm σ n) 3 (σ (9 + n.toNat) 8) σ 1 := by
  intro sz
  refine va_MetW (cc := cL_instalments) (maxL := 4) (ret := (some .int)) (hh := [(0, 9, 12, 13)]) (by decide) rfl ?_
  intro p e s m args below meth cd s₁ B hml hv
  obtain ⟨rfl, hsz, hP, hO, hK, hX, hN3⟩ := hv
  have hx := B.exec
  have hb := B.bytes
  have hr := B.returns
  have hts := atoms_spec (ws := wsL_instalments) B.pre
  have hown : s.vm.findClass RL = some m.cls := findClass_of_methodNamed B.named
  have hlocks := B.notSynchronized
  subst hsz
  have htab := vx_table (x := yL_instalments) B (hts _ List.mem_cons_self)
  have hS : va_S (oA ad ao s.heap.size) s.heap s.heap [] := va_S.rf
  have hA : ∀ q, s.heap.size ≤ q → oA ad ao s.heap.size q := fun _ h => Or.inr (Or.inr h)
  have hAc : ∀ j, j < 33 → oA ad ao s.heap.size (ad j) := fun j h => Or.inl ⟨j, h, rfl⟩
  have hAo : oA ad ao s.heap.size ao := Or.inr (Or.inl rfl)
  have hl := lv_entry ([.ref (ad 0), .int (iI n), .ref ao]) (n := 4) (Nat.le_of_ble_eq_true rfl)
  rw [lg_entry_eq]
  generalize (lg_sl ([.ref (ad 0), .int (iI n), .ref ao]) ++ List.replicate (4 - (lg_sl ([.ref (ad 0), .int (iI n), .ref ao])).length) Slot.unset).toArray = ls at hl ⊢
  have hl : lv_has ls 4 [(0, .ref (ad 0)), (1, .int (iI n)), (2, .ref ao)] := hl
  have lknIO := hts (.classLink RL 13 nIO) (by decide +kernel)
  refine lv_aload_n hx hb dL_instalments_0 rfl (lv_at hl 2 rfl) ?_
  refine k_iconst hx hb dL_instalments_1 ?_
  refine lv_aload_n hx hb dL_instalments_2 rfl (lv_at hl 0 rfl) ?_
  refine lv_iload_n hx hb dL_instalments_3 rfl (lv_at hl 1 rfl) ?_
  refine k_hxi (As := [.int (iI n)]) (rest := [.int (iI 0), .ref ao]) ⟨hx, hb, hml, hown, hts⟩ (h_instalments l hfl G ad cy hI σ hB n (by assumption)) (cwV 1 hts gL_instalments_X2_instalments rfl rfl rfl (by decide +kernel) ⟨Nat.le_of_ble_eq_true rfl, Nat.le_of_ble_eq_true rfl⟩) hAc hA hK hX hao hP hO hS rfl hl.1 rfl (Nat.le_of_ble_eq_true rfl) dL_instalments_4 ⟨Nat.le_of_ble_eq_true rfl, Nat.le_of_ble_eq_true rfl⟩ (fun E ce q9 H locs hN hP hO hS e1 e2 e3 => ?_) (fun h0 H locs hP hO hS => ?_)
  · rcases hN with ⟨hc, rfl⟩ | ⟨hc, rfl⟩ | ⟨hc, rfl⟩
    · refine vx_catch (name := nIO) hown [] ⟨0, 9, 12, 13⟩ [] (htab.trans rfl) (fun z h => absurd h List.not_mem_nil) (by decide) (by decide) lknIO (xB_use hX.2.1 (.castable nIO nIO) (by decide +kernel)) e1 e2 e3 ?_
      refine lv_astore_n (lv' := [(3, .ref q9), (0, .ref (ad 0)), (1, .int (iI n)), (2, .ref ao)]) hx hb dL_instalments_12 rfl hl (by decide) rfl (fun ls hl => ?_)
      refine k_iconst hx hb dL_instalments_13 ?_
      refine W.widen (k := 1) (n := 6 * 1) (Nat.le_of_ble_eq_true rfl) (Nat.le_of_ble_eq_true rfl) ?_
      exact W.iret hx hb hr (fun t ht hW => ⟨⟨_, (σ, fo), rfl, ⟨by rw [hc]; rfl, by rw [hc]; rfl, fun h => absurd (hc.symm.trans h) (by decide)⟩, by rw [ht]; exact hP, by rw [ht]; exact hO, va_K.moved hW.alike hK⟩, hS.F ht⟩) hS.2.2 dL_instalments_14
    · exact absurd hc ((n_farm _ _).1)
    · exact absurd hc ((n_farm _ _).2)
  · refine lv_i2l hx hb dL_instalments_7 rfl ?_
    refine k_ost hx hb hAo hao hK hP hO hS hI hAc dL_instalments_8 (fun H locs fo hfo hP hO hS => ?_)
    refine lv_goto (tgt := 15) hx hb dL_instalments_9 (by decide) ?_
    refine k_iconst hx hb dL_instalments_15 ?_
    refine W.widen (k := 1) (n := 6 * 1) (Nat.le_of_ble_eq_true rfl) (Nat.le_of_ble_eq_true rfl) ?_
    exact W.iret hx hb hr (fun t ht hW => ⟨⟨_, (σ, fo), rfl, ⟨by rw [h0]; rfl, by rw [h0, hSt, if_pos rfl], fun _ => hfo⟩, by rw [ht]; exact hP, by rw [ht]; exact hO, va_K.moved hW.alike hK⟩, hS.F ht⟩) hS.2.2 dL_instalments_16
set_option maxHeartbeats 4000000 in
set_option maxRecDepth 100000 in
theorem l_purse (l : Launch) (hfl : l.stackTraces = false) (G : va_G) (ad : Nat → Nat) (cy : Nat → ClassId) (hI : cI ad) (ao : Nat) (hao : ∀ j, j < 33 → ao ≠ ad j) (fo : Nat → Int64) (σ : Sg) (hB : cBd σ) (n : Int) (hn : nB n) : lM l yL_purse wsL_purse ({ frames := 8, cells := 1, slots := 6, locals := 126 } : Room) G ad cy ao fo [.ref (ad 0), .int (iI n), .ref ao] σ (cFarm σ n) 3 (σ (9 + n.toNat) 1) σ 1 := by
  intro sz
  refine va_MetW (cc := cL_purse) (maxL := 4) (ret := (some .int)) (hh := [(0, 9, 12, 13)]) (by decide) rfl ?_
  intro p e s m args below meth cd s₁ B hml hv
  obtain ⟨rfl, hsz, hP, hO, hK, hX, hN3⟩ := hv
  have hx := B.exec
  have hb := B.bytes
  have hr := B.returns
  have hts := atoms_spec (ws := wsL_purse) B.pre
  have hown : s.vm.findClass RL = some m.cls := findClass_of_methodNamed B.named
  have hlocks := B.notSynchronized
  subst hsz
  have htab := vx_table (x := yL_purse) B (hts _ List.mem_cons_self)
  have hS : va_S (oA ad ao s.heap.size) s.heap s.heap [] := va_S.rf
  have hA : ∀ q, s.heap.size ≤ q → oA ad ao s.heap.size q := fun _ h => Or.inr (Or.inr h)
  have hAc : ∀ j, j < 33 → oA ad ao s.heap.size (ad j) := fun j h => Or.inl ⟨j, h, rfl⟩
  have hAo : oA ad ao s.heap.size ao := Or.inr (Or.inl rfl)
  have hl := lv_entry ([.ref (ad 0), .int (iI n), .ref ao]) (n := 4) (Nat.le_of_ble_eq_true rfl)
  rw [lg_entry_eq]
  generalize (lg_sl ([.ref (ad 0), .int (iI n), .ref ao]) ++ List.replicate (4 - (lg_sl ([.ref (ad 0), .int (iI n), .ref ao])).length) Slot.unset).toArray = ls at hl ⊢
  have hl : lv_has ls 4 [(0, .ref (ad 0)), (1, .int (iI n)), (2, .ref ao)] := hl
  have lknIO := hts (.classLink RL 13 nIO) (by decide +kernel)
  refine lv_aload_n hx hb dL_purse_0 rfl (lv_at hl 2 rfl) ?_
  refine k_iconst hx hb dL_purse_1 ?_
  refine lv_aload_n hx hb dL_purse_2 rfl (lv_at hl 0 rfl) ?_
  refine lv_iload_n hx hb dL_purse_3 rfl (lv_at hl 1 rfl) ?_
  refine k_hxi (As := [.int (iI n)]) (rest := [.int (iI 0), .ref ao]) ⟨hx, hb, hml, hown, hts⟩ (h_purse l hfl G ad cy hI σ hB n (by assumption)) (cwV 1 hts gL_purse_X2_purse rfl rfl rfl (by decide +kernel) ⟨Nat.le_of_ble_eq_true rfl, Nat.le_of_ble_eq_true rfl⟩) hAc hA hK hX hao hP hO hS rfl hl.1 rfl (Nat.le_of_ble_eq_true rfl) dL_purse_4 ⟨Nat.le_of_ble_eq_true rfl, Nat.le_of_ble_eq_true rfl⟩ (fun E ce q9 H locs hN hP hO hS e1 e2 e3 => ?_) (fun h0 H locs hP hO hS => ?_)
  · rcases hN with ⟨hc, rfl⟩ | ⟨hc, rfl⟩ | ⟨hc, rfl⟩
    · refine vx_catch (name := nIO) hown [] ⟨0, 9, 12, 13⟩ [] (htab.trans rfl) (fun z h => absurd h List.not_mem_nil) (by decide) (by decide) lknIO (xB_use hX.2.1 (.castable nIO nIO) (by decide +kernel)) e1 e2 e3 ?_
      refine lv_astore_n (lv' := [(3, .ref q9), (0, .ref (ad 0)), (1, .int (iI n)), (2, .ref ao)]) hx hb dL_purse_12 rfl hl (by decide) rfl (fun ls hl => ?_)
      refine k_iconst hx hb dL_purse_13 ?_
      refine W.widen (k := 1) (n := 6 * 1) (Nat.le_of_ble_eq_true rfl) (Nat.le_of_ble_eq_true rfl) ?_
      exact W.iret hx hb hr (fun t ht hW => ⟨⟨_, (σ, fo), rfl, ⟨by rw [hc]; rfl, by rw [hc]; rfl, fun h => absurd (hc.symm.trans h) (by decide)⟩, by rw [ht]; exact hP, by rw [ht]; exact hO, va_K.moved hW.alike hK⟩, hS.F ht⟩) hS.2.2 dL_purse_14
    · exact absurd hc ((n_farm _ _).1)
    · exact absurd hc ((n_farm _ _).2)
  · refine lv_i2l hx hb dL_purse_7 rfl ?_
    refine k_ost hx hb hAo hao hK hP hO hS hI hAc dL_purse_8 (fun H locs fo hfo hP hO hS => ?_)
    refine lv_goto (tgt := 15) hx hb dL_purse_9 (by decide) ?_
    refine k_iconst hx hb dL_purse_15 ?_
    refine W.widen (k := 1) (n := 6 * 1) (Nat.le_of_ble_eq_true rfl) (Nat.le_of_ble_eq_true rfl) ?_
    exact W.iret hx hb hr (fun t ht hW => ⟨⟨_, (σ, fo), rfl, ⟨by rw [h0]; rfl, by rw [h0, hSt, if_pos rfl], fun _ => hfo⟩, by rw [ht]; exact hP, by rw [ht]; exact hO, va_K.moved hW.alike hK⟩, hS.F ht⟩) hS.2.2 dL_purse_16
set_option maxHeartbeats 4000000 in
set_option maxRecDepth 100000 in
theorem l_grain (l : Launch) (hfl : l.stackTraces = false) (G : va_G) (ad : Nat → Nat) (cy : Nat → ClassId) (hI : cI ad) (ao : Nat) (hao : ∀ j, j < 33 → ao ≠ ad j) (fo : Nat → Int64) (σ : Sg) (hB : cBd σ) (n b : Int) (hn : nB n) (hb : nB b) : lM l yL_grain wsL_grain ({ frames := 8, cells := 1, slots := 6, locals := 128 } : Room) G ad cy ao fo [.ref (ad 0), .int (iI n), .int (iI b), .ref ao] σ (cFarm σ n) 3 (if b = 0 then σ (9 + n.toNat) 9 else σ (9 + n.toNat) 10) σ 1 := by
  intro sz
  refine va_MetW (cc := cL_grain) (maxL := 5) (ret := (some .int)) (hh := [(0, 10, 13, 13)]) (by decide) rfl ?_
  intro p e s m args below meth cd s₁ B hml hv
  obtain ⟨rfl, hsz, hP, hO, hK, hX, hN3⟩ := hv
  have hx := B.exec
  have hb := B.bytes
  have hr := B.returns
  have hts := atoms_spec (ws := wsL_grain) B.pre
  have hown : s.vm.findClass RL = some m.cls := findClass_of_methodNamed B.named
  have hlocks := B.notSynchronized
  subst hsz
  have htab := vx_table (x := yL_grain) B (hts _ List.mem_cons_self)
  have hS : va_S (oA ad ao s.heap.size) s.heap s.heap [] := va_S.rf
  have hA : ∀ q, s.heap.size ≤ q → oA ad ao s.heap.size q := fun _ h => Or.inr (Or.inr h)
  have hAc : ∀ j, j < 33 → oA ad ao s.heap.size (ad j) := fun j h => Or.inl ⟨j, h, rfl⟩
  have hAo : oA ad ao s.heap.size ao := Or.inr (Or.inl rfl)
  have hl := lv_entry ([.ref (ad 0), .int (iI n), .int (iI b), .ref ao]) (n := 5) (Nat.le_of_ble_eq_true rfl)
  rw [lg_entry_eq]
  generalize (lg_sl ([.ref (ad 0), .int (iI n), .int (iI b), .ref ao]) ++ List.replicate (5 - (lg_sl ([.ref (ad 0), .int (iI n), .int (iI b), .ref ao])).length) Slot.unset).toArray = ls at hl ⊢
  have hl : lv_has ls 5 [(0, .ref (ad 0)), (1, .int (iI n)), (2, .int (iI b)), (3, .ref ao)] := hl
  have lknIO := hts (.classLink RL 13 nIO) (by decide +kernel)
  refine lv_aload_n hx hb dL_grain_0 rfl (lv_at hl 3 rfl) ?_
  refine k_iconst hx hb dL_grain_1 ?_
  refine lv_aload_n hx hb dL_grain_2 rfl (lv_at hl 0 rfl) ?_
  refine lv_iload_n hx hb dL_grain_3 rfl (lv_at hl 1 rfl) ?_
  refine lv_iload_n hx hb dL_grain_4 rfl (lv_at hl 2 rfl) ?_
  refine k_hxi (As := [.int (iI n), .int (iI b)]) (rest := [.int (iI 0), .ref ao]) ⟨hx, hb, hml, hown, hts⟩ (h_grain l hfl G ad cy hI σ hB n b (by assumption) (by assumption)) (cwV 2 hts gL_grain_X2_grain rfl rfl rfl (by decide +kernel) ⟨Nat.le_of_ble_eq_true rfl, Nat.le_of_ble_eq_true rfl⟩) hAc hA hK hX hao hP hO hS rfl hl.1 rfl (Nat.le_of_ble_eq_true rfl) dL_grain_5 ⟨Nat.le_of_ble_eq_true rfl, Nat.le_of_ble_eq_true rfl⟩ (fun E ce q9 H locs hN hP hO hS e1 e2 e3 => ?_) (fun h0 H locs hP hO hS => ?_)
  · rcases hN with ⟨hc, rfl⟩ | ⟨hc, rfl⟩ | ⟨hc, rfl⟩
    · refine vx_catch (name := nIO) hown [] ⟨0, 10, 13, 13⟩ [] (htab.trans rfl) (fun z h => absurd h List.not_mem_nil) (by decide) (by decide) lknIO (xB_use hX.2.1 (.castable nIO nIO) (by decide +kernel)) e1 e2 e3 ?_
      refine lv_astore (lv' := [(4, .ref q9), (0, .ref (ad 0)), (1, .int (iI n)), (2, .int (iI b)), (3, .ref ao)]) hx hb dL_grain_13 hl (by decide) rfl (fun ls hl => ?_)
      refine k_iconst hx hb dL_grain_15 ?_
      refine W.widen (k := 1) (n := 6 * 1) (Nat.le_of_ble_eq_true rfl) (Nat.le_of_ble_eq_true rfl) ?_
      exact W.iret hx hb hr (fun t ht hW => ⟨⟨_, (σ, fo), rfl, ⟨by rw [hc]; rfl, by rw [hc]; rfl, fun h => absurd (hc.symm.trans h) (by decide)⟩, by rw [ht]; exact hP, by rw [ht]; exact hO, va_K.moved hW.alike hK⟩, hS.F ht⟩) hS.2.2 dL_grain_16
    · exact absurd hc ((n_farm _ _).1)
    · exact absurd hc ((n_farm _ _).2)
  · refine lv_i2l hx hb dL_grain_8 rfl ?_
    refine k_ost hx hb hAo hao hK hP hO hS hI hAc dL_grain_9 (fun H locs fo hfo hP hO hS => ?_)
    refine lv_goto (tgt := 17) hx hb dL_grain_10 (by decide) ?_
    refine k_iconst hx hb dL_grain_17 ?_
    refine W.widen (k := 1) (n := 6 * 1) (Nat.le_of_ble_eq_true rfl) (Nat.le_of_ble_eq_true rfl) ?_
    exact W.iret hx hb hr (fun t ht hW => ⟨⟨_, (σ, fo), rfl, ⟨by rw [h0]; rfl, by rw [h0, hSt, if_pos rfl], fun _ => hfo⟩, by rw [ht]; exact hP, by rw [ht]; exact hO, va_K.moved hW.alike hK⟩, hS.F ht⟩) hS.2.2 dL_grain_18
set_option maxHeartbeats 4000000 in
set_option maxRecDepth 100000 in
theorem l_called (l : Launch) (hfl : l.stackTraces = false) (G : va_G) (ad : Nat → Nat) (cy : Nat → ClassId) (hI : cI ad) (ao : Nat) (hao : ∀ j, j < 33 → ao ≠ ad j) (fo : Nat → Int64) (σ : Sg) (hB : cBd σ) (n : Int) (hn : nB n) : lM l yL_called wsL_called ({ frames := 8, cells := 1, slots := 6, locals := 126 } : Room) G ad cy ao fo [.ref (ad 0), .int (iI n), .ref ao] σ (cFarm σ n) 3 (σ (9 + n.toNat) 5) σ 1 := by
  intro sz
  refine va_MetW (cc := cL_called) (maxL := 4) (ret := (some .int)) (hh := [(0, 9, 12, 13)]) (by decide) rfl ?_
  intro p e s m args below meth cd s₁ B hml hv
  obtain ⟨rfl, hsz, hP, hO, hK, hX, hN3⟩ := hv
  have hx := B.exec
  have hb := B.bytes
  have hr := B.returns
  have hts := atoms_spec (ws := wsL_called) B.pre
  have hown : s.vm.findClass RL = some m.cls := findClass_of_methodNamed B.named
  have hlocks := B.notSynchronized
  subst hsz
  have htab := vx_table (x := yL_called) B (hts _ List.mem_cons_self)
  have hS : va_S (oA ad ao s.heap.size) s.heap s.heap [] := va_S.rf
  have hA : ∀ q, s.heap.size ≤ q → oA ad ao s.heap.size q := fun _ h => Or.inr (Or.inr h)
  have hAc : ∀ j, j < 33 → oA ad ao s.heap.size (ad j) := fun j h => Or.inl ⟨j, h, rfl⟩
  have hAo : oA ad ao s.heap.size ao := Or.inr (Or.inl rfl)
  have hl := lv_entry ([.ref (ad 0), .int (iI n), .ref ao]) (n := 4) (Nat.le_of_ble_eq_true rfl)
  rw [lg_entry_eq]
  generalize (lg_sl ([.ref (ad 0), .int (iI n), .ref ao]) ++ List.replicate (4 - (lg_sl ([.ref (ad 0), .int (iI n), .ref ao])).length) Slot.unset).toArray = ls at hl ⊢
  have hl : lv_has ls 4 [(0, .ref (ad 0)), (1, .int (iI n)), (2, .ref ao)] := hl
  have lknIO := hts (.classLink RL 13 nIO) (by decide +kernel)
  refine lv_aload_n hx hb dL_called_0 rfl (lv_at hl 2 rfl) ?_
  refine k_iconst hx hb dL_called_1 ?_
  refine lv_aload_n hx hb dL_called_2 rfl (lv_at hl 0 rfl) ?_
  refine lv_iload_n hx hb dL_called_3 rfl (lv_at hl 1 rfl) ?_
  refine k_hxi (As := [.int (iI n)]) (rest := [.int (iI 0), .ref ao]) ⟨hx, hb, hml, hown, hts⟩ (h_called l hfl G ad cy hI σ hB n (by assumption)) (cwV 1 hts gL_called_X2_called rfl rfl rfl (by decide +kernel) ⟨Nat.le_of_ble_eq_true rfl, Nat.le_of_ble_eq_true rfl⟩) hAc hA hK hX hao hP hO hS rfl hl.1 rfl (Nat.le_of_ble_eq_true rfl) dL_called_4 ⟨Nat.le_of_ble_eq_true rfl, Nat.le_of_ble_eq_true rfl⟩ (fun E ce q9 H locs hN hP hO hS e1 e2 e3 => ?_) (fun h0 H locs hP hO hS => ?_)
  · rcases hN with ⟨hc, rfl⟩ | ⟨hc, rfl⟩ | ⟨hc, rfl⟩
    · refine vx_catch (name := nIO) hown [] ⟨0, 9, 12, 13⟩ [] (htab.trans rfl) (fun z h => absurd h List.not_mem_nil) (by decide) (by decide) lknIO (xB_use hX.2.1 (.castable nIO nIO) (by decide +kernel)) e1 e2 e3 ?_
      refine lv_astore_n (lv' := [(3, .ref q9), (0, .ref (ad 0)), (1, .int (iI n)), (2, .ref ao)]) hx hb dL_called_12 rfl hl (by decide) rfl (fun ls hl => ?_)
      refine k_iconst hx hb dL_called_13 ?_
      refine W.widen (k := 1) (n := 6 * 1) (Nat.le_of_ble_eq_true rfl) (Nat.le_of_ble_eq_true rfl) ?_
      exact W.iret hx hb hr (fun t ht hW => ⟨⟨_, (σ, fo), rfl, ⟨by rw [hc]; rfl, by rw [hc]; rfl, fun h => absurd (hc.symm.trans h) (by decide)⟩, by rw [ht]; exact hP, by rw [ht]; exact hO, va_K.moved hW.alike hK⟩, hS.F ht⟩) hS.2.2 dL_called_14
    · exact absurd hc ((n_farm _ _).1)
    · exact absurd hc ((n_farm _ _).2)
  · refine lv_i2l hx hb dL_called_7 rfl ?_
    refine k_ost hx hb hAo hao hK hP hO hS hI hAc dL_called_8 (fun H locs fo hfo hP hO hS => ?_)
    refine lv_goto (tgt := 15) hx hb dL_called_9 (by decide) ?_
    refine k_iconst hx hb dL_called_15 ?_
    refine W.widen (k := 1) (n := 6 * 1) (Nat.le_of_ble_eq_true rfl) (Nat.le_of_ble_eq_true rfl) ?_
    exact W.iret hx hb hr (fun t ht hW => ⟨⟨_, (σ, fo), rfl, ⟨by rw [h0]; rfl, by rw [h0, hSt, if_pos rfl], fun _ => hfo⟩, by rw [ht]; exact hP, by rw [ht]; exact hO, va_K.moved hW.alike hK⟩, hS.F ht⟩) hS.2.2 dL_called_16
set_option maxHeartbeats 4000000 in
set_option maxRecDepth 100000 in
theorem l_repaid (l : Launch) (hfl : l.stackTraces = false) (G : va_G) (ad : Nat → Nat) (cy : Nat → ClassId) (hI : cI ad) (ao : Nat) (hao : ∀ j, j < 33 → ao ≠ ad j) (fo : Nat → Int64) (σ : Sg) (hB : cBd σ) (n x : Int) (hn : nB n) (hx : nB x) : lM l yL_repaid wsL_repaid ({ frames := 8, cells := 2, slots := 12, locals := 129 } : Room) G ad cy ao fo [.ref (ad 0), .int (iI n), .int (iI x), .ref ao] σ (kRepaid σ n x) 3 (σ (17 + n.toNat) x.toNat) σ 2 := by
  intro sz
  refine va_MetW (cc := cL_repaid) (maxL := 5) (ret := (some .int)) (hh := [(0, 10, 13, 13), (0, 10, 17, 15)]) (by decide) rfl ?_
  intro p e s m args below meth cd s₁ B hml hv
  obtain ⟨rfl, hsz, hP, hO, hK, hX, hN3⟩ := hv
  have hx := B.exec
  have hb := B.bytes
  have hr := B.returns
  have hts := atoms_spec (ws := wsL_repaid) B.pre
  have hown : s.vm.findClass RL = some m.cls := findClass_of_methodNamed B.named
  have hlocks := B.notSynchronized
  subst hsz
  have htab := vx_table (x := yL_repaid) B (hts _ List.mem_cons_self)
  have hS : va_S (oA ad ao s.heap.size) s.heap s.heap [] := va_S.rf
  have hA : ∀ q, s.heap.size ≤ q → oA ad ao s.heap.size q := fun _ h => Or.inr (Or.inr h)
  have hAc : ∀ j, j < 33 → oA ad ao s.heap.size (ad j) := fun j h => Or.inl ⟨j, h, rfl⟩
  have hAo : oA ad ao s.heap.size ao := Or.inr (Or.inl rfl)
  have hl := lv_entry ([.ref (ad 0), .int (iI n), .int (iI x), .ref ao]) (n := 5) (Nat.le_of_ble_eq_true rfl)
  rw [lg_entry_eq]
  generalize (lg_sl ([.ref (ad 0), .int (iI n), .int (iI x), .ref ao]) ++ List.replicate (5 - (lg_sl ([.ref (ad 0), .int (iI n), .int (iI x), .ref ao])).length) Slot.unset).toArray = ls at hl ⊢
  have hl : lv_has ls 5 [(0, .ref (ad 0)), (1, .int (iI n)), (2, .int (iI x)), (3, .ref ao)] := hl
  have lknIO := hts (.classLink RL 13 nIO) (by decide +kernel)
  have lknIA := hts (.classLink RL 15 nIA) (by decide +kernel)
  refine lv_aload_n hx hb dL_repaid_0 rfl (lv_at hl 3 rfl) ?_
  refine k_iconst hx hb dL_repaid_1 ?_
  refine lv_aload_n hx hb dL_repaid_2 rfl (lv_at hl 0 rfl) ?_
  refine lv_iload_n hx hb dL_repaid_3 rfl (lv_at hl 1 rfl) ?_
  refine lv_iload_n hx hb dL_repaid_4 rfl (lv_at hl 2 rfl) ?_
  refine k_hxi (As := [.int (iI n), .int (iI x)]) (rest := [.int (iI 0), .ref ao]) ⟨hx, hb, hml, hown, hts⟩ (h_repaid l hfl G ad cy hI σ hB n x (by assumption) (by assumption)) (cwV 2 hts gL_repaid_X2_repaid rfl rfl rfl (by decide +kernel) ⟨Nat.le_of_ble_eq_true rfl, Nat.le_of_ble_eq_true rfl⟩) hAc hA hK hX hao hP hO hS rfl hl.1 rfl (Nat.le_of_ble_eq_true rfl) dL_repaid_5 ⟨Nat.le_of_ble_eq_true rfl, Nat.le_of_ble_eq_true rfl⟩ (fun E ce q9 H locs hN hP hO hS e1 e2 e3 => ?_) (fun h0 H locs hP hO hS => ?_)
  · rcases hN with ⟨hc, rfl⟩ | ⟨hc, rfl⟩ | ⟨hc, rfl⟩
    · refine vx_catch (name := nIO) hown [] ⟨0, 10, 13, 13⟩ [⟨0, 10, 17, 15⟩] (htab.trans rfl) (fun z h => absurd h List.not_mem_nil) (by decide) (by decide) lknIO (xB_use hX.2.1 (.castable nIO nIO) (by decide +kernel)) e1 e2 e3 ?_
      refine lv_astore (lv' := [(4, .ref q9), (0, .ref (ad 0)), (1, .int (iI n)), (2, .int (iI x)), (3, .ref ao)]) hx hb dL_repaid_13 hl (by decide) rfl (fun ls hl => ?_)
      refine k_iconst hx hb dL_repaid_15 ?_
      refine W.widen (k := 2) (n := 6 * 2) (Nat.le_of_ble_eq_true rfl) (Nat.le_of_ble_eq_true rfl) ?_
      exact W.iret hx hb hr (fun t ht hW => ⟨⟨_, (σ, fo), rfl, ⟨by rw [hc]; rfl, by rw [hc]; rfl, fun h => absurd (hc.symm.trans h) (by decide)⟩, by rw [ht]; exact hP, by rw [ht]; exact hO, va_K.moved hW.alike hK⟩, hS.F ht⟩) hS.2.2 dL_repaid_16
    · refine vx_catch (name := nIA) hown [⟨0, 10, 13, 13⟩] ⟨0, 10, 17, 15⟩ [] (htab.trans rfl) (List.forall_mem_cons.mpr ⟨Or.inr ⟨by decide, nIO, lknIO, hN3.1⟩, (fun _ h => absurd h List.not_mem_nil)⟩) (by decide) (by decide) lknIA (xB_use hX.2.1 (.castable nIA nIA) (by decide +kernel)) e1 e2 e3 ?_
      refine lv_astore (lv' := [(4, .ref q9), (0, .ref (ad 0)), (1, .int (iI n)), (2, .int (iI x)), (3, .ref ao)]) hx hb dL_repaid_17 hl (by decide) rfl (fun ls hl => ?_)
      refine k_iconst hx hb dL_repaid_19 ?_
      refine W.widen (k := 2) (n := 6 * 2) (Nat.le_of_ble_eq_true rfl) (Nat.le_of_ble_eq_true rfl) ?_
      exact W.iret hx hb hr (fun t ht hW => ⟨⟨_, (σ, fo), rfl, ⟨by rw [hc]; rfl, by rw [hc]; rfl, fun h => absurd (hc.symm.trans h) (by decide)⟩, by rw [ht]; exact hP, by rw [ht]; exact hO, va_K.moved hW.alike hK⟩, hS.F ht⟩) hS.2.2 dL_repaid_20
    · exact absurd hc (n_repaid _ _ _)
  · refine lv_i2l hx hb dL_repaid_8 rfl ?_
    refine k_ost hx hb hAo hao hK hP hO hS hI hAc dL_repaid_9 (fun H locs fo hfo hP hO hS => ?_)
    refine lv_goto (tgt := 21) hx hb dL_repaid_10 (by decide) ?_
    refine k_iconst hx hb dL_repaid_21 ?_
    refine W.widen (k := 2) (n := 6 * 2) (Nat.le_of_ble_eq_true rfl) (Nat.le_of_ble_eq_true rfl) ?_
    exact W.iret hx hb hr (fun t ht hW => ⟨⟨_, (σ, fo), rfl, ⟨by rw [h0]; rfl, by rw [h0, hSt, if_pos rfl], fun _ => hfo⟩, by rw [ht]; exact hP, by rw [ht]; exact hO, va_K.moved hW.alike hK⟩, hS.F ht⟩) hS.2.2 dL_repaid_22
set_option maxHeartbeats 4000000 in
set_option maxRecDepth 100000 in
theorem l_charged (l : Launch) (hfl : l.stackTraces = false) (G : va_G) (ad : Nat → Nat) (cy : Nat → ClassId) (hI : cI ad) (ao : Nat) (hao : ∀ j, j < 33 → ao ≠ ad j) (fo : Nat → Int64) (σ : Sg) (hB : cBd σ) (n : Int) (hn : nB n) : lM l yL_charged wsL_charged ({ frames := 8, cells := 1, slots := 6, locals := 126 } : Room) G ad cy ao fo [.ref (ad 0), .int (iI n), .ref ao] σ (cFarm σ n) 3 (σ (9 + n.toNat) 4) σ 1 := by
  intro sz
  refine va_MetW (cc := cL_charged) (maxL := 4) (ret := (some .int)) (hh := [(0, 9, 12, 13)]) (by decide) rfl ?_
  intro p e s m args below meth cd s₁ B hml hv
  obtain ⟨rfl, hsz, hP, hO, hK, hX, hN3⟩ := hv
  have hx := B.exec
  have hb := B.bytes
  have hr := B.returns
  have hts := atoms_spec (ws := wsL_charged) B.pre
  have hown : s.vm.findClass RL = some m.cls := findClass_of_methodNamed B.named
  have hlocks := B.notSynchronized
  subst hsz
  have htab := vx_table (x := yL_charged) B (hts _ List.mem_cons_self)
  have hS : va_S (oA ad ao s.heap.size) s.heap s.heap [] := va_S.rf
  have hA : ∀ q, s.heap.size ≤ q → oA ad ao s.heap.size q := fun _ h => Or.inr (Or.inr h)
  have hAc : ∀ j, j < 33 → oA ad ao s.heap.size (ad j) := fun j h => Or.inl ⟨j, h, rfl⟩
  have hAo : oA ad ao s.heap.size ao := Or.inr (Or.inl rfl)
  have hl := lv_entry ([.ref (ad 0), .int (iI n), .ref ao]) (n := 4) (Nat.le_of_ble_eq_true rfl)
  rw [lg_entry_eq]
  generalize (lg_sl ([.ref (ad 0), .int (iI n), .ref ao]) ++ List.replicate (4 - (lg_sl ([.ref (ad 0), .int (iI n), .ref ao])).length) Slot.unset).toArray = ls at hl ⊢
  have hl : lv_has ls 4 [(0, .ref (ad 0)), (1, .int (iI n)), (2, .ref ao)] := hl
  have lknIO := hts (.classLink RL 13 nIO) (by decide +kernel)
  refine lv_aload_n hx hb dL_charged_0 rfl (lv_at hl 2 rfl) ?_
  refine k_iconst hx hb dL_charged_1 ?_
  refine lv_aload_n hx hb dL_charged_2 rfl (lv_at hl 0 rfl) ?_
  refine lv_iload_n hx hb dL_charged_3 rfl (lv_at hl 1 rfl) ?_
  refine k_hxi (As := [.int (iI n)]) (rest := [.int (iI 0), .ref ao]) ⟨hx, hb, hml, hown, hts⟩ (h_charged l hfl G ad cy hI σ hB n (by assumption)) (cwV 1 hts gL_charged_X2_charged rfl rfl rfl (by decide +kernel) ⟨Nat.le_of_ble_eq_true rfl, Nat.le_of_ble_eq_true rfl⟩) hAc hA hK hX hao hP hO hS rfl hl.1 rfl (Nat.le_of_ble_eq_true rfl) dL_charged_4 ⟨Nat.le_of_ble_eq_true rfl, Nat.le_of_ble_eq_true rfl⟩ (fun E ce q9 H locs hN hP hO hS e1 e2 e3 => ?_) (fun h0 H locs hP hO hS => ?_)
  · rcases hN with ⟨hc, rfl⟩ | ⟨hc, rfl⟩ | ⟨hc, rfl⟩
    · refine vx_catch (name := nIO) hown [] ⟨0, 9, 12, 13⟩ [] (htab.trans rfl) (fun z h => absurd h List.not_mem_nil) (by decide) (by decide) lknIO (xB_use hX.2.1 (.castable nIO nIO) (by decide +kernel)) e1 e2 e3 ?_
      refine lv_astore_n (lv' := [(3, .ref q9), (0, .ref (ad 0)), (1, .int (iI n)), (2, .ref ao)]) hx hb dL_charged_12 rfl hl (by decide) rfl (fun ls hl => ?_)
      refine k_iconst hx hb dL_charged_13 ?_
      refine W.widen (k := 1) (n := 6 * 1) (Nat.le_of_ble_eq_true rfl) (Nat.le_of_ble_eq_true rfl) ?_
      exact W.iret hx hb hr (fun t ht hW => ⟨⟨_, (σ, fo), rfl, ⟨by rw [hc]; rfl, by rw [hc]; rfl, fun h => absurd (hc.symm.trans h) (by decide)⟩, by rw [ht]; exact hP, by rw [ht]; exact hO, va_K.moved hW.alike hK⟩, hS.F ht⟩) hS.2.2 dL_charged_14
    · exact absurd hc ((n_farm _ _).1)
    · exact absurd hc ((n_farm _ _).2)
  · refine lv_i2l hx hb dL_charged_7 rfl ?_
    refine k_ost hx hb hAo hao hK hP hO hS hI hAc dL_charged_8 (fun H locs fo hfo hP hO hS => ?_)
    refine lv_goto (tgt := 15) hx hb dL_charged_9 (by decide) ?_
    refine k_iconst hx hb dL_charged_15 ?_
    refine W.widen (k := 1) (n := 6 * 1) (Nat.le_of_ble_eq_true rfl) (Nat.le_of_ble_eq_true rfl) ?_
    exact W.iret hx hb hr (fun t ht hW => ⟨⟨_, (σ, fo), rfl, ⟨by rw [h0]; rfl, by rw [h0, hSt, if_pos rfl], fun _ => hfo⟩, by rw [ht]; exact hP, by rw [ht]; exact hO, va_K.moved hW.alike hK⟩, hS.F ht⟩) hS.2.2 dL_charged_16
