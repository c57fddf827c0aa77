set_option maxHeartbeats 4000000 in
set_option maxRecDepth 100000 in
theorem h_farmers (l : Launch) (G : va_G) (ad : Nat → Nat) (cy : Nat → ClassId) (hI : cI ad) (σ : Sg)  : cMi l yX2_farmers wsX2_farmers ({ frames := 0, cells := 0, slots := 0, locals := 0 } : Room) G ad cy [.ref (ad 0)] σ (σ 0 2) σ := by
  intro sz
  refine Met.ofW (cc := cX2_farmers) (maxL := 1) (ret := (some .int)) (by decide) rfl ?_
  intro p e s m args below meth cd s₁ B hml hv
  obtain ⟨rfl, hsz, hP, hK⟩ := hv
  have hx := B.exec
  have hb := B.bytes
  have hr := B.returns
  have hts := atoms_spec (ws := wsX2_farmers) B.pre
  have hown : s.vm.findClass RX2 = some m.cls := findClass_of_methodNamed B.named
  have hlocks := B.notSynchronized
  subst hsz
  have hS : va_S (cA ad s.heap.size) s.heap s.heap [] := va_S.rf
  have hA : ∀ q, s.heap.size ≤ q → cA ad s.heap.size q := fun _ h => Or.inr h
  have hAc : ∀ j, j < 33 → cA ad s.heap.size (ad j) := fun j h => Or.inl ⟨j, h, rfl⟩
  have hl := lv_entry ([.ref (ad 0)]) (n := 1) (Nat.le_of_ble_eq_true rfl)
  rw [lg_entry_eq]
  generalize (lg_sl ([.ref (ad 0)]) ++ List.replicate (1 - (lg_sl ([.ref (ad 0)])).length) Slot.unset).toArray = ls at hl ⊢
  have hl : lv_has ls 1 [(0, .ref (ad 0))] := hl
  have hF2 : ∀ w ∈ wsX20, w ∈ wsX2_farmers := by decide +kernel
  have lf21 := hts (.fieldLink RX2 21 "HarvestLender" "count" "I") (by decide +kernel)
  refine lv_aload_n hx hb dX2_farmers_0 rfl (lv_at hl 0 rfl) ?_
  refine k_gH (v := .int (iI (σ 0 2))) hx hb hts hown hF2 hK hP 2 (by decide) lf21 dX2_farmers_1 rfl rfl ?_
  have eR : σ 0 2 = σ 0 2 := by rfl
  exact W.iret hx hb hr (fun t ht hW => ⟨⟨_, _, rfl, ⟨by rw [eR], rfl⟩, by rw [ht]; exact hP, va_K.moved hW.alike hK⟩, hS.F ht⟩) hS.2.2 dX2_farmers_4
set_option maxHeartbeats 4000000 in
set_option maxRecDepth 100000 in
theorem h_season (l : Launch) (G : va_G) (ad : Nat → Nat) (cy : Nat → ClassId) (hI : cI ad) (σ : Sg)  : cMi l yX2_season wsX2_season ({ frames := 0, cells := 0, slots := 0, locals := 0 } : Room) G ad cy [.ref (ad 0)] σ (σ 0 3) σ := by
  intro sz
  refine Met.ofW (cc := cX2_season) (maxL := 1) (ret := (some .int)) (by decide) rfl ?_
  intro p e s m args below meth cd s₁ B hml hv
  obtain ⟨rfl, hsz, hP, hK⟩ := hv
  have hx := B.exec
  have hb := B.bytes
  have hr := B.returns
  have hts := atoms_spec (ws := wsX2_season) B.pre
  have hown : s.vm.findClass RX2 = some m.cls := findClass_of_methodNamed B.named
  have hlocks := B.notSynchronized
  subst hsz
  have hS : va_S (cA ad s.heap.size) s.heap s.heap [] := va_S.rf
  have hA : ∀ q, s.heap.size ≤ q → cA ad s.heap.size q := fun _ h => Or.inr h
  have hAc : ∀ j, j < 33 → cA ad s.heap.size (ad j) := fun j h => Or.inl ⟨j, h, rfl⟩
  have hl := lv_entry ([.ref (ad 0)]) (n := 1) (Nat.le_of_ble_eq_true rfl)
  rw [lg_entry_eq]
  generalize (lg_sl ([.ref (ad 0)]) ++ List.replicate (1 - (lg_sl ([.ref (ad 0)])).length) Slot.unset).toArray = ls at hl ⊢
  have hl : lv_has ls 1 [(0, .ref (ad 0))] := hl
  have hF2 : ∀ w ∈ wsX20, w ∈ wsX2_season := by decide +kernel
  have lf25 := hts (.fieldLink RX2 25 "HarvestLender" "season" "I") (by decide +kernel)
  refine lv_aload_n hx hb dX2_season_0 rfl (lv_at hl 0 rfl) ?_
  refine k_gH (v := .int (iI (σ 0 3))) hx hb hts hown hF2 hK hP 3 (by decide) lf25 dX2_season_1 rfl rfl ?_
  have eR : σ 0 3 = σ 0 3 := by rfl
  exact W.iret hx hb hr (fun t ht hW => ⟨⟨_, _, rfl, ⟨by rw [eR], rfl⟩, by rw [ht]; exact hP, va_K.moved hW.alike hK⟩, hS.F ht⟩) hS.2.2 dX2_season_4
set_option maxHeartbeats 4000000 in
set_option maxRecDepth 100000 in
theorem h_stage (l : Launch) (G : va_G) (ad : Nat → Nat) (cy : Nat → ClassId) (hI : cI ad) (σ : Sg)  : cMi l yX2_stage wsX2_stage ({ frames := 0, cells := 0, slots := 0, locals := 0 } : Room) G ad cy [.ref (ad 0)] σ (σ 0 4) σ := by
  intro sz
  refine Met.ofW (cc := cX2_stage) (maxL := 1) (ret := (some .int)) (by decide) rfl ?_
  intro p e s m args below meth cd s₁ B hml hv
  obtain ⟨rfl, hsz, hP, hK⟩ := hv
  have hx := B.exec
  have hb := B.bytes
  have hr := B.returns
  have hts := atoms_spec (ws := wsX2_stage) B.pre
  have hown : s.vm.findClass RX2 = some m.cls := findClass_of_methodNamed B.named
  have hlocks := B.notSynchronized
  subst hsz
  have hS : va_S (cA ad s.heap.size) s.heap s.heap [] := va_S.rf
  have hA : ∀ q, s.heap.size ≤ q → cA ad s.heap.size q := fun _ h => Or.inr h
  have hAc : ∀ j, j < 33 → cA ad s.heap.size (ad j) := fun j h => Or.inl ⟨j, h, rfl⟩
  have hl := lv_entry ([.ref (ad 0)]) (n := 1) (Nat.le_of_ble_eq_true rfl)
  rw [lg_entry_eq]
  generalize (lg_sl ([.ref (ad 0)]) ++ List.replicate (1 - (lg_sl ([.ref (ad 0)])).length) Slot.unset).toArray = ls at hl ⊢
  have hl : lv_has ls 1 [(0, .ref (ad 0))] := hl
  have hF2 : ∀ w ∈ wsX20, w ∈ wsX2_stage := by decide +kernel
  have lf28 := hts (.fieldLink RX2 28 "HarvestLender" "stage" "I") (by decide +kernel)
  refine lv_aload_n hx hb dX2_stage_0 rfl (lv_at hl 0 rfl) ?_
  refine k_gH (v := .int (iI (σ 0 4))) hx hb hts hown hF2 hK hP 4 (by decide) lf28 dX2_stage_1 rfl rfl ?_
  have eR : σ 0 4 = σ 0 4 := by rfl
  exact W.iret hx hb hr (fun t ht hW => ⟨⟨_, _, rfl, ⟨by rw [eR], rfl⟩, by rw [ht]; exact hP, va_K.moved hW.alike hK⟩, hS.F ht⟩) hS.2.2 dX2_stage_4
set_option maxHeartbeats 4000000 in
set_option maxRecDepth 100000 in
theorem h_setNeed (l : Launch) (hfl : l.stackTraces = false) (G : va_G) (ad : Nat → Nat) (cy : Nat → ClassId) (hI : cI ad) (σ : Sg) (hB : cBd σ) (c x v : Int) (hc : nB c) (hx : nB x) (hv : nB v) : xMi l yX2_setNeed wsX2_setNeed ({ frames := 7, cells := 2, slots := 12, locals := 106 } : Room) G ad cy [.ref (ad 0), .int (iI c), .int (iI x), .int (iI v)] σ (kSetNeed c x v) (σ (6 + c.toNat) x.toNat) (up σ (6 + c.toNat) x.toNat v) 2 := by
  intro sz
  refine vx_ofW (cc := cX2_setNeed) (maxL := 6) (ret := (some .int)) (by decide) rfl ?_
  intro p e s m args below meth cd s₁ B hml hno hv
  obtain ⟨rfl, hsz, hP, hK, hX⟩ := hv
  have hx := B.exec
  have hb := B.bytes
  have hr := B.returns
  have hts := atoms_spec (ws := wsX2_setNeed) B.pre
  have hown : s.vm.findClass RX2 = some m.cls := findClass_of_methodNamed B.named
  have hlocks := B.notSynchronized
  subst hsz
  have hS : va_S (cA ad s.heap.size) s.heap s.heap [] := va_S.rf
  have hA : ∀ q, s.heap.size ≤ q → cA ad s.heap.size q := fun _ h => Or.inr h
  have hAc : ∀ j, j < 33 → cA ad s.heap.size (ad j) := fun j h => Or.inl ⟨j, h, rfl⟩
  have hl := lv_entry ([.ref (ad 0), .int (iI c), .int (iI x), .int (iI v)]) (n := 6) (Nat.le_of_ble_eq_true rfl)
  rw [lg_entry_eq]
  generalize (lg_sl ([.ref (ad 0), .int (iI c), .int (iI x), .int (iI v)]) ++ List.replicate (6 - (lg_sl ([.ref (ad 0), .int (iI c), .int (iI x), .int (iI v)])).length) Slot.unset).toArray = ls at hl ⊢
  have hl : lv_has ls 6 [(0, .ref (ad 0)), (1, .int (iI c)), (2, .int (iI x)), (3, .int (iI v))] := hl
  have hF0 : ∀ w ∈ wsX00, w ∈ wsX2_setNeed := by decide +kernel
  have lk37 := hts (.classLink RX2 37 nIO) (by decide +kernel)
  have liIO := hts (.initialized nIO) (by decide +kernel)
  have lc44 := hts (.constant RX2 44 (100000)) (by decide +kernel)
  have lf49 := hts (.fieldLink RX2 49 "HarvestLender$Crop" "needs" "[I") (by decide +kernel)
  have hcnt := hB.1.1
  have hstg := hB.1.2.2
  have hsea := hB.1.2.1
  refine lv_aload_n hx hb dX2_setNeed_0 rfl (lv_at hl 0 rfl) ?_
  refine lv_iload_n hx hb dX2_setNeed_1 rfl (lv_at hl 1 rfl) ?_
  refine k_xq (As := [.int (iI c)]) (rest := []) ⟨hx, hb, hml, hown, hts⟩ (x_cropAt l hfl G ad cy hI σ c (by omega)) (cwV 1 hts gX2_setNeed_X2_cropAt rfl rfl rfl (by decide +kernel) ⟨Nat.le_of_ble_eq_true rfl, Nat.le_of_ble_eq_true rfl⟩) (cRecvH hK hP) hAc hA hK hX hP hS rfl hl.1 rfl (Nat.le_of_ble_eq_true rfl) dX2_setNeed_2 ⟨Nat.le_of_ble_eq_true rfl, Nat.le_of_ble_eq_true rfl⟩ (fun E ce q9 H locs hN hP hS e1 e2 e3 => ?_) (fun h_1 H locs hP hS => ?_)
  · exact x_out hno hlocks hK hP hS e1 e2 e3 (by rw [(show kSetNeed c x v = cCrop c by first | rfl | (simp [kSetNeed, cSeq, xN_ne hN]))]; exact hN) (Nat.le_of_ble_eq_true rfl) (Nat.le_of_ble_eq_true rfl)
  have zh_1 := cCrop_0 h_1
  obtain ⟨p1, p2, p3⟩ := hB.2.1 c.toNat (by omega)
  refine lv_astore (lv' := [(4, .ref (ad (3 + c.toNat))), (0, .ref (ad 0)), (1, .int (iI c)), (2, .int (iI x)), (3, .int (iI v))]) hx hb dX2_setNeed_5 hl (by decide) rfl (fun ls hl => ?_)
  refine lv_iload_n hx hb dX2_setNeed_7 rfl (lv_at hl 3 rfl) ?_
  refine k_if_lt (tgt := 16) hx hb dX2_setNeed_8 (by decide) (by omega) (fun c_2 => ?_) (fun c_2 => ?_)
  · exact x_thr (text := "no such stage") hfl hx hb hown fitIO nUp_fit lk37 liIO (by decide) (fun w h => hts w (by unfold wsX2_setNeed; exact List.mem_cons_of_mem _ (List.mem_append_left _ (List.mem_append_right _ h)))) xbIO xgIO hno hlocks hK hX hP hS (hl.1.trans hml.symm) (by rw [show kSetNeed c x v = 1 by (simp [kSetNeed, cSeq, h_1, c_2] <;> omega)]; exact xN1) dX2_setNeed_16 dX2_setNeed_19 dX2_setNeed_20 dX2_setNeed_22 dX2_setNeed_25 (Nat.le_of_ble_eq_true rfl) (Nat.le_of_ble_eq_true rfl) (Nat.le_of_ble_eq_true rfl) (Nat.le_of_ble_eq_true rfl) (Nat.le_of_ble_eq_true rfl) (Nat.le_of_ble_eq_true rfl)
  · refine lv_iload_n hx hb dX2_setNeed_11 rfl (lv_at hl 3 rfl) ?_
    refine k_iconst hx hb dX2_setNeed_12 ?_
    refine k_icmp_lt (tgt := 26) hx hb dX2_setNeed_13 (by decide) (by omega) (by decide) (fun c_3 => ?_) (fun c_3 => ?_)
    · refine lv_iload_n hx hb dX2_setNeed_26 rfl (lv_at hl 4 rfl) ?_
      refine k_iconst hx hb dX2_setNeed_27 ?_
      refine k_ldc hx hb (100000) hown lc44 (by decide) dX2_setNeed_28 ?_
      refine k_xsv (As := [.int (iI v), .int (iI 0), .int (iI 100000)]) (rest := []) ⟨hx, hb, hml, hown, hts⟩ (x_range l hfl G ad cy hI σ v 0 100000 (by omega) (by omega) (by omega)) (va_cwS 3 hts gX2_setNeed_X2_requireRange rfl rfl rfl (by decide +kernel) ⟨Nat.le_of_ble_eq_true rfl, Nat.le_of_ble_eq_true rfl⟩)  hAc hA hK hX hP hS rfl hl.1 rfl (Nat.le_of_ble_eq_true rfl) dX2_setNeed_30 ⟨Nat.le_of_ble_eq_true rfl, Nat.le_of_ble_eq_true rfl⟩ (fun E ce q9 H locs hN hP hS e1 e2 e3 => ?_) (fun h_4 H locs hP hS => ?_)
      · exact x_out hno hlocks hK hP hS e1 e2 e3 (by rw [(show kSetNeed c x v = cRange v 0 100000 by first | rfl | (simp [kSetNeed, cSeq, h_1, c_2, c_3, xN_ne hN]))]; exact hN) (Nat.le_of_ble_eq_true rfl) (Nat.le_of_ble_eq_true rfl)
      have zh_4 := cRange_0 h_4
      refine lv_aload hx hb dX2_setNeed_33 (lv_at hl 0 rfl) ?_
      refine k_gC (i := c.toNat) (v := .ref (ad (6 + c.toNat))) hx hb hts hown hF0 hK hP (by omega) 0 (by decide) lf49 dX2_setNeed_35 rfl rfl ?_
      refine lv_iload_n hx hb dX2_setNeed_38 rfl (lv_at hl 3 rfl) ?_
      refine k_nld (i := c.toNat) (x := x) hx hb hK hP (by omega) (by omega) (by omega) dX2_setNeed_39 ?_
      refine lv_istore (lv' := [(5, .int (iI (σ (6 + c.toNat) x.toNat))), (4, .ref (ad (3 + c.toNat))), (0, .ref (ad 0)), (1, .int (iI c)), (2, .int (iI x)), (3, .int (iI v))]) hx hb dX2_setNeed_40 hl (by decide) rfl (fun ls hl => ?_)
      refine lv_aload hx hb dX2_setNeed_42 (lv_at hl 1 rfl) ?_
      refine k_gC (i := c.toNat) (v := .ref (ad (6 + c.toNat))) hx hb hts hown hF0 hK hP (by omega) 0 (by decide) lf49 dX2_setNeed_44 rfl rfl ?_
      refine lv_iload_n hx hb dX2_setNeed_47 rfl (lv_at hl 4 rfl) ?_
      refine lv_iload_n hx hb dX2_setNeed_48 rfl (lv_at hl 5 rfl) ?_
      refine k_nst (i := c.toNat) (x := x) (v := v) hx hb hI hAc hK hP hS (by omega) (by omega) (by omega) dX2_setNeed_49 (fun H locs hP hS => ?_)
      refine lv_iload hx hb dX2_setNeed_50 (lv_at hl 0 rfl) ?_
      have e0 : kSetNeed c x v = 0 := by (simp [kSetNeed, cSeq, h_1, c_2, c_3, h_4] <;> omega)
      have eR : σ (6 + c.toNat) x.toNat = σ (6 + c.toNat) x.toNat := by rfl
      exact x_iret hx hb hr hlocks hK hP hS e0 eR dX2_setNeed_52 (Nat.le_of_ble_eq_true rfl) (Nat.le_of_ble_eq_true rfl)
    · exact x_thr (text := "no such stage") hfl hx hb hown fitIO nUp_fit lk37 liIO (by decide) (fun w h => hts w (by unfold wsX2_setNeed; exact List.mem_cons_of_mem _ (List.mem_append_left _ (List.mem_append_right _ h)))) xbIO xgIO hno hlocks hK hX hP hS (hl.1.trans hml.symm) (by rw [show kSetNeed c x v = 1 by (simp [kSetNeed, cSeq, h_1, c_2, c_3] <;> omega)]; exact xN1) dX2_setNeed_16 dX2_setNeed_19 dX2_setNeed_20 dX2_setNeed_22 dX2_setNeed_25 (Nat.le_of_ble_eq_true rfl) (Nat.le_of_ble_eq_true rfl) (Nat.le_of_ble_eq_true rfl) (Nat.le_of_ble_eq_true rfl) (Nat.le_of_ble_eq_true rfl) (Nat.le_of_ble_eq_true rfl)
set_option maxHeartbeats 4000000 in
set_option maxRecDepth 100000 in
theorem h_setCrop (l : Launch) (hfl : l.stackTraces = false) (G : va_G) (ad : Nat → Nat) (cy : Nat → ClassId) (hI : cI ad) (σ : Sg) (hB : cBd σ) (c x v : Int) (hc : nB c) (hx : nB x) (hv : nB v) : xMi l yX2_setCrop wsX2_setCrop ({ frames := 7, cells := 3, slots := 18, locals := 106 } : Room) G ad cy [.ref (ad 0), .int (iI c), .int (iI x), .int (iI v)] σ (kSetCrop c x v) (σ (3 + c.toNat) 1) (up (up σ (3 + c.toNat) 1 x) (3 + c.toNat) 2 v) 3 := by
  intro sz
  refine vx_ofW (cc := cX2_setCrop) (maxL := 6) (ret := (some .int)) (by decide) rfl ?_
  intro p e s m args below meth cd s₁ B hml hno hv
  obtain ⟨rfl, hsz, hP, hK, hX⟩ := hv
  have hx := B.exec
  have hb := B.bytes
  have hr := B.returns
  have hts := atoms_spec (ws := wsX2_setCrop) B.pre
  have hown : s.vm.findClass RX2 = some m.cls := findClass_of_methodNamed B.named
  have hlocks := B.notSynchronized
  subst hsz
  have hS : va_S (cA ad s.heap.size) s.heap s.heap [] := va_S.rf
  have hA : ∀ q, s.heap.size ≤ q → cA ad s.heap.size q := fun _ h => Or.inr h
  have hAc : ∀ j, j < 33 → cA ad s.heap.size (ad j) := fun j h => Or.inl ⟨j, h, rfl⟩
  have hl := lv_entry ([.ref (ad 0), .int (iI c), .int (iI x), .int (iI v)]) (n := 6) (Nat.le_of_ble_eq_true rfl)
  rw [lg_entry_eq]
  generalize (lg_sl ([.ref (ad 0), .int (iI c), .int (iI x), .int (iI v)]) ++ List.replicate (6 - (lg_sl ([.ref (ad 0), .int (iI c), .int (iI x), .int (iI v)])).length) Slot.unset).toArray = ls at hl ⊢
  have hl : lv_has ls 6 [(0, .ref (ad 0)), (1, .int (iI c)), (2, .int (iI x)), (3, .int (iI v))] := hl
  have hF0 : ∀ w ∈ wsX00, w ∈ wsX2_setCrop := by decide +kernel
  have lf53 := hts (.fieldLink RX2 53 "HarvestLender$Crop" "price" "I") (by decide +kernel)
  have lf56 := hts (.fieldLink RX2 56 "HarvestLender$Crop" "normal" "I") (by decide +kernel)
  have hcnt := hB.1.1
  have hstg := hB.1.2.2
  have hsea := hB.1.2.1
  refine lv_aload_n hx hb dX2_setCrop_0 rfl (lv_at hl 0 rfl) ?_
  refine lv_iload_n hx hb dX2_setCrop_1 rfl (lv_at hl 1 rfl) ?_
  refine k_xq (As := [.int (iI c)]) (rest := []) ⟨hx, hb, hml, hown, hts⟩ (x_cropAt l hfl G ad cy hI σ c (by omega)) (cwV 1 hts gX2_setCrop_X2_cropAt rfl rfl rfl (by decide +kernel) ⟨Nat.le_of_ble_eq_true rfl, Nat.le_of_ble_eq_true rfl⟩) (cRecvH hK hP) hAc hA hK hX hP hS rfl hl.1 rfl (Nat.le_of_ble_eq_true rfl) dX2_setCrop_2 ⟨Nat.le_of_ble_eq_true rfl, Nat.le_of_ble_eq_true rfl⟩ (fun E ce q9 H locs hN hP hS e1 e2 e3 => ?_) (fun h_1 H locs hP hS => ?_)
  · exact x_out hno hlocks hK hP hS e1 e2 e3 (by rw [(show kSetCrop c x v = cCrop c by first | rfl | (simp [kSetCrop, cSeq, xN_ne hN]))]; exact hN) (Nat.le_of_ble_eq_true rfl) (Nat.le_of_ble_eq_true rfl)
  have zh_1 := cCrop_0 h_1
  obtain ⟨p1, p2, p3⟩ := hB.2.1 c.toNat (by omega)
  refine lv_astore (lv' := [(4, .ref (ad (3 + c.toNat))), (0, .ref (ad 0)), (1, .int (iI c)), (2, .int (iI x)), (3, .int (iI v))]) hx hb dX2_setCrop_5 hl (by decide) rfl (fun ls hl => ?_)
  refine lv_iload_n hx hb dX2_setCrop_7 rfl (lv_at hl 3 rfl) ?_
  refine k_iconst hx hb dX2_setCrop_8 ?_
  refine k_sipush hx hb dX2_setCrop_9 (by decide) ?_
  refine k_xsv (As := [.int (iI x), .int (iI 1), .int (iI 5000)]) (rest := []) ⟨hx, hb, hml, hown, hts⟩ (x_range l hfl G ad cy hI σ x 1 5000 (by omega) (by omega) (by omega)) (va_cwS 3 hts gX2_setCrop_X2_requireRange rfl rfl rfl (by decide +kernel) ⟨Nat.le_of_ble_eq_true rfl, Nat.le_of_ble_eq_true rfl⟩)  hAc hA hK hX hP hS rfl hl.1 rfl (Nat.le_of_ble_eq_true rfl) dX2_setCrop_12 ⟨Nat.le_of_ble_eq_true rfl, Nat.le_of_ble_eq_true rfl⟩ (fun E ce q9 H locs hN hP hS e1 e2 e3 => ?_) (fun h_2 H locs hP hS => ?_)
  · exact x_out hno hlocks hK hP hS e1 e2 e3 (by rw [(show kSetCrop c x v = cRange x 1 5000 by first | rfl | (simp [kSetCrop, cSeq, h_1, xN_ne hN]))]; exact hN) (Nat.le_of_ble_eq_true rfl) (Nat.le_of_ble_eq_true rfl)
  have zh_2 := cRange_0 h_2
  refine lv_iload_n hx hb dX2_setCrop_15 rfl (lv_at hl 4 rfl) ?_
  refine k_iconst hx hb dX2_setCrop_16 ?_
  refine k_bipush hx hb dX2_setCrop_17 (by decide) ?_
  refine k_xsv (As := [.int (iI v), .int (iI 0), .int (iI 100)]) (rest := []) ⟨hx, hb, hml, hown, hts⟩ (x_range l hfl G ad cy hI σ v 0 100 (by omega) (by omega) (by omega)) (va_cwS 3 hts gX2_setCrop_X2_requireRange rfl rfl rfl (by decide +kernel) ⟨Nat.le_of_ble_eq_true rfl, Nat.le_of_ble_eq_true rfl⟩)  hAc hA hK hX hP hS rfl hl.1 rfl (Nat.le_of_ble_eq_true rfl) dX2_setCrop_19 ⟨Nat.le_of_ble_eq_true rfl, Nat.le_of_ble_eq_true rfl⟩ (fun E ce q9 H locs hN hP hS e1 e2 e3 => ?_) (fun h_3 H locs hP hS => ?_)
  · exact x_out hno hlocks hK hP hS e1 e2 e3 (by rw [(show kSetCrop c x v = cRange v 0 100 by first | rfl | (simp [kSetCrop, cSeq, h_1, h_2, xN_ne hN]))]; exact hN) (Nat.le_of_ble_eq_true rfl) (Nat.le_of_ble_eq_true rfl)
  have zh_3 := cRange_0 h_3
  refine lv_aload hx hb dX2_setCrop_22 (lv_at hl 0 rfl) ?_
  refine k_gC (i := c.toNat) (v := .int (iI (σ (3 + c.toNat) 1))) hx hb hts hown hF0 hK hP (by omega) 1 (by decide) lf53 dX2_setCrop_24 rfl rfl ?_
  refine lv_istore (lv' := [(5, .int (iI (σ (3 + c.toNat) 1))), (4, .ref (ad (3 + c.toNat))), (0, .ref (ad 0)), (1, .int (iI c)), (2, .int (iI x)), (3, .int (iI v))]) hx hb dX2_setCrop_27 hl (by decide) rfl (fun ls hl => ?_)
  refine lv_aload hx hb dX2_setCrop_29 (lv_at hl 1 rfl) ?_
  refine lv_iload_n hx hb dX2_setCrop_31 rfl (lv_at hl 4 rfl) ?_
  refine k_pC (i := c.toNat) (v := x) hx hb hts hown hF0 hI hAc hK hP hS (by omega) 1 (by decide) (by decide) lf53 dX2_setCrop_32 rfl rfl (by decide +kernel) (fun H locs hP hS => ?_)
  refine lv_aload hx hb dX2_setCrop_35 (lv_at hl 1 rfl) ?_
  refine lv_iload_n hx hb dX2_setCrop_37 rfl (lv_at hl 5 rfl) ?_
  refine k_pC (i := c.toNat) (v := v) hx hb hts hown hF0 hI hAc hK hP hS (by omega) 2 (by decide) (by decide) lf56 dX2_setCrop_38 rfl rfl (by decide +kernel) (fun H locs hP hS => ?_)
  refine lv_iload hx hb dX2_setCrop_41 (lv_at hl 0 rfl) ?_
  have e0 : kSetCrop c x v = 0 := by (simp [kSetCrop, cSeq, h_1, h_2, h_3] <;> omega)
  have eR : σ (3 + c.toNat) 1 = σ (3 + c.toNat) 1 := by rfl
  exact x_iret hx hb hr hlocks hK hP hS e0 eR dX2_setCrop_43 (Nat.le_of_ble_eq_true rfl) (Nat.le_of_ble_eq_true rfl)
set_option maxHeartbeats 4000000 in
set_option maxRecDepth 100000 in
theorem h_add (l : Launch) (hfl : l.stackTraces = false) (G : va_G) (ad : Nat → Nat) (cy : Nat → ClassId) (hI : cI ad) (σ : Sg) (hB : cBd σ) (g : Int) (hg : nB g) : xMi l yX2_add wsX2_add ({ frames := 7, cells := 2, slots := 12, locals := 104 } : Room) G ad cy [.ref (ad 0), .int (iI g)] σ (kAdd σ g) (σ 0 2) (up (up σ (9 + (σ 0 2).toNat) 0 g) 0 2 ((σ 0 2) + 1)) 2 := by
  intro sz
  refine vx_ofW (cc := cX2_add) (maxL := 3) (ret := (some .int)) (by decide) rfl ?_
  intro p e s m args below meth cd s₁ B hml hno hv
  obtain ⟨rfl, hsz, hP, hK, hX⟩ := hv
  have hx := B.exec
  have hb := B.bytes
  have hr := B.returns
  have hts := atoms_spec (ws := wsX2_add) B.pre
  have hown : s.vm.findClass RX2 = some m.cls := findClass_of_methodNamed B.named
  have hlocks := B.notSynchronized
  subst hsz
  have hS : va_S (cA ad s.heap.size) s.heap s.heap [] := va_S.rf
  have hA : ∀ q, s.heap.size ≤ q → cA ad s.heap.size q := fun _ h => Or.inr h
  have hAc : ∀ j, j < 33 → cA ad s.heap.size (ad j) := fun j h => Or.inl ⟨j, h, rfl⟩
  have hl := lv_entry ([.ref (ad 0), .int (iI g)]) (n := 3) (Nat.le_of_ble_eq_true rfl)
  rw [lg_entry_eq]
  generalize (lg_sl ([.ref (ad 0), .int (iI g)]) ++ List.replicate (3 - (lg_sl ([.ref (ad 0), .int (iI g)])).length) Slot.unset).toArray = ls at hl ⊢
  have hl : lv_has ls 3 [(0, .ref (ad 0)), (1, .int (iI g))] := hl
  have hF1 : ∀ w ∈ wsX10, w ∈ wsX2_add := by decide +kernel
  have hF2 : ∀ w ∈ wsX20, w ∈ wsX2_add := by decide +kernel
  have lk37 := hts (.classLink RX2 37 nIO) (by decide +kernel)
  have liIO := hts (.initialized nIO) (by decide +kernel)
  have lf21 := hts (.fieldLink RX2 21 "HarvestLender" "count" "I") (by decide +kernel)
  have lf17 := hts (.fieldLink RX2 17 "HarvestLender" "rows" "[LHarvestLender$Farmer;") (by decide +kernel)
  have lf65 := hts (.fieldLink RX2 65 "HarvestLender$Farmer" "group" "I") (by decide +kernel)
  have hcnt := hB.1.1
  have hstg := hB.1.2.2
  have hsea := hB.1.2.1
  refine lv_iload_n hx hb dX2_add_0 rfl (lv_at hl 1 rfl) ?_
  refine k_if_lt (tgt := 9) hx hb dX2_add_1 (by decide) (by omega) (fun c_1 => ?_) (fun c_1 => ?_)
  · exact x_thr (text := "no such group") hfl hx hb hown fitIO nUp_fit lk37 liIO (by decide) (fun w h => hts w (by unfold wsX2_add; exact List.mem_cons_of_mem _ (List.mem_append_left _ (List.mem_append_right _ h)))) xbIO xgIO hno hlocks hK hX hP hS (hl.1.trans hml.symm) (by rw [show kAdd σ g = 1 by (simp [kAdd, cSeq, c_1] <;> omega)]; exact xN1) dX2_add_9 dX2_add_12 dX2_add_13 dX2_add_15 dX2_add_18 (Nat.le_of_ble_eq_true rfl) (Nat.le_of_ble_eq_true rfl) (Nat.le_of_ble_eq_true rfl) (Nat.le_of_ble_eq_true rfl) (Nat.le_of_ble_eq_true rfl) (Nat.le_of_ble_eq_true rfl)
  · refine lv_iload_n hx hb dX2_add_4 rfl (lv_at hl 1 rfl) ?_
    refine k_iconst hx hb dX2_add_5 ?_
    refine k_icmp_lt (tgt := 19) hx hb dX2_add_6 (by decide) (by omega) (by decide) (fun c_2 => ?_) (fun c_2 => ?_)
    · refine lv_aload_n hx hb dX2_add_19 rfl (lv_at hl 0 rfl) ?_
      refine k_gH (v := .int (iI (σ 0 2))) hx hb hts hown hF2 hK hP 2 (by decide) lf21 dX2_add_20 rfl rfl ?_
      refine k_bipush hx hb dX2_add_23 (by decide) ?_
      refine k_icmp_ge (tgt := 32) hx hb dX2_add_25 (by decide) (by omega) (by decide) (fun c_3 => ?_) (fun c_3 => ?_)
      · refine k_iconst hx hb dX2_add_32 ?_
        refine k_xsv (As := [.int (iI 0)]) (rest := []) ⟨hx, hb, hml, hown, hts⟩ (x_state l hfl G ad cy hI σ 0 (by omega)) (va_cwS 1 hts gX2_add_X2_requireState rfl rfl rfl (by decide +kernel) ⟨Nat.le_of_ble_eq_true rfl, Nat.le_of_ble_eq_true rfl⟩)  hAc hA hK hX hP hS rfl hl.1 rfl (Nat.le_of_ble_eq_true rfl) dX2_add_33 ⟨Nat.le_of_ble_eq_true rfl, Nat.le_of_ble_eq_true rfl⟩ (fun E ce q9 H locs hN hP hS e1 e2 e3 => ?_) (fun h9 => absurd h9 (by decide))
        exact x_out hno hlocks hK hP hS e1 e2 e3 (by rw [(show kAdd σ g = 3 by (simp [kAdd, cSeq, c_1, c_2, c_3] <;> omega))]; exact hN) (Nat.le_of_ble_eq_true rfl) (Nat.le_of_ble_eq_true rfl)
      · refine k_iconst hx hb dX2_add_28 ?_
        refine lv_goto (tgt := 33) hx hb dX2_add_29 (by decide) ?_
        refine k_xsv (As := [.int (iI 1)]) (rest := []) ⟨hx, hb, hml, hown, hts⟩ (x_state l hfl G ad cy hI σ 1 (by omega)) (va_cwS 1 hts gX2_add_X2_requireState rfl rfl rfl (by decide +kernel) ⟨Nat.le_of_ble_eq_true rfl, Nat.le_of_ble_eq_true rfl⟩)  hAc hA hK hX hP hS rfl hl.1 rfl (Nat.le_of_ble_eq_true rfl) dX2_add_33 ⟨Nat.le_of_ble_eq_true rfl, Nat.le_of_ble_eq_true rfl⟩ (fun E ce q9 H locs hN _ _ _ _ _ => absurd rfl (xN_ne hN)) (fun _ H locs hP hS => ?_)
        refine lv_aload_n hx hb dX2_add_36 rfl (lv_at hl 0 rfl) ?_
        refine k_gH (v := .int (iI (σ 0 2))) hx hb hts hown hF2 hK hP 2 (by decide) lf21 dX2_add_37 rfl rfl ?_
        refine lv_istore_n (lv' := [(2, .int (iI (σ 0 2))), (0, .ref (ad 0)), (1, .int (iI g))]) hx hb dX2_add_40 rfl hl (by decide) rfl (fun ls hl => ?_)
        refine lv_aload_n hx hb dX2_add_41 rfl (lv_at hl 1 rfl) ?_
        refine k_gH (v := .ref (ad 2)) hx hb hts hown hF2 hK hP 1 (by decide) lf17 dX2_add_42 rfl rfl ?_
        refine lv_iload_n hx hb dX2_add_45 rfl (lv_at hl 0 rfl) ?_
        refine k_fld (x := σ 0 2) hx hb hK hP (by omega) (by omega) dX2_add_46 ?_
        refine lv_iload_n hx hb dX2_add_47 rfl (lv_at hl 2 rfl) ?_
        refine k_pFi (i := (σ 0 2).toNat) (v := g) hx hb hts hown hF1 hI hAc hK hP hS (by omega) 0 rfl (by decide) lf65 dX2_add_48 rfl rfl (by decide +kernel) (fun H locs hP hS => ?_)
        refine lv_aload_n hx hb dX2_add_51 rfl (lv_at hl 1 rfl) ?_
        refine lv_iload_n hx hb dX2_add_52 rfl (lv_at hl 0 rfl) ?_
        refine k_iconst hx hb dX2_add_53 ?_
        refine k_iadd hx hb dX2_add_54 ?_
        refine k_pH (v := (σ 0 2) + 1) hx hb hts hown hF2 hI hAc hK hP hS 2 (by decide) (by decide) lf21 dX2_add_55 rfl rfl (by decide +kernel) (fun H locs hP hS => ?_)
        refine lv_iload_n hx hb dX2_add_58 rfl (lv_at hl 0 rfl) ?_
        have eF : up (up σ (9 + ((σ 0 2).toNat)) 0 g) 0 2 ((σ 0 2) + 1) = up (up σ (9 + (σ 0 2).toNat) 0 g) 0 2 ((σ 0 2) + 1) := by first | rfl | (simp only [up_s]; done) | (simp only [up_s]; repeat' split) <;> first | rfl | (exfalso; omega) | omega
        rw [eF] at hP
        have e0 : kAdd σ g = 0 := by (simp [kAdd, cSeq, c_1, c_2, c_3] <;> omega)
        have eR : σ 0 2 = σ 0 2 := by rfl
        exact x_iret hx hb hr hlocks hK hP hS e0 eR dX2_add_59 (Nat.le_of_ble_eq_true rfl) (Nat.le_of_ble_eq_true rfl)
    · exact x_thr (text := "no such group") hfl hx hb hown fitIO nUp_fit lk37 liIO (by decide) (fun w h => hts w (by unfold wsX2_add; exact List.mem_cons_of_mem _ (List.mem_append_left _ (List.mem_append_right _ h)))) xbIO xgIO hno hlocks hK hX hP hS (hl.1.trans hml.symm) (by rw [show kAdd σ g = 1 by (simp [kAdd, cSeq, c_1, c_2] <;> omega)]; exact xN1) dX2_add_9 dX2_add_12 dX2_add_13 dX2_add_15 dX2_add_18 (Nat.le_of_ble_eq_true rfl) (Nat.le_of_ble_eq_true rfl) (Nat.le_of_ble_eq_true rfl) (Nat.le_of_ble_eq_true rfl) (Nat.le_of_ble_eq_true rfl) (Nat.le_of_ble_eq_true rfl)
set_option maxHeartbeats 4000000 in
set_option maxRecDepth 100000 in
theorem h_plant (l : Launch) (hfl : l.stackTraces = false) (G : va_G) (ad : Nat → Nat) (cy : Nat → ClassId) (hI : cI ad) (σ : Sg) (hB : cBd σ) (n c h : Int) (hn : nB n) (hc : nB c) (hh : nB h) : xMi l yX2_plant wsX2_plant ({ frames := 7, cells := 5, slots := 30, locals := 106 } : Room) G ad cy [.ref (ad 0), .int (iI n), .int (iI c), .int (iI h)] σ (kPlant σ n c h) (fNeedUp σ c.toNat (σ 0 4) * h) (fPlant σ n.toNat c h) 5 := by
  intro sz
  refine vx_ofW (cc := cX2_plant) (maxL := 6) (ret := (some .int)) (by decide) rfl ?_
  intro p e s m args below meth cd s₁ B hml hno hv
  obtain ⟨rfl, hsz, hP, hK, hX⟩ := hv
  have hx := B.exec
  have hb := B.bytes
  have hr := B.returns
  have hts := atoms_spec (ws := wsX2_plant) B.pre
  have hown : s.vm.findClass RX2 = some m.cls := findClass_of_methodNamed B.named
  have hlocks := B.notSynchronized
  subst hsz
  have hS : va_S (cA ad s.heap.size) s.heap s.heap [] := va_S.rf
  have hA : ∀ q, s.heap.size ≤ q → cA ad s.heap.size q := fun _ h => Or.inr h
  have hAc : ∀ j, j < 33 → cA ad s.heap.size (ad j) := fun j h => Or.inl ⟨j, h, rfl⟩
  have hl := lv_entry ([.ref (ad 0), .int (iI n), .int (iI c), .int (iI h)]) (n := 6) (Nat.le_of_ble_eq_true rfl)
  rw [lg_entry_eq]
  generalize (lg_sl ([.ref (ad 0), .int (iI n), .int (iI c), .int (iI h)]) ++ List.replicate (6 - (lg_sl ([.ref (ad 0), .int (iI n), .int (iI c), .int (iI h)])).length) Slot.unset).toArray = ls at hl ⊢
  have hl : lv_has ls 6 [(0, .ref (ad 0)), (1, .int (iI n)), (2, .int (iI c)), (3, .int (iI h))] := hl
  have hF1 : ∀ w ∈ wsX10, w ∈ wsX2_plant := by decide +kernel
  have hF2 : ∀ w ∈ wsX20, w ∈ wsX2_plant := by decide +kernel
  have lf28 := hts (.fieldLink RX2 28 "HarvestLender" "stage" "I") (by decide +kernel)
  have lf76 := hts (.fieldLink RX2 76 "HarvestLender$Farmer" "grain" "I") (by decide +kernel)
  have lf82 := hts (.fieldLink RX2 82 "HarvestLender$Farmer" "plantedCrop" "I") (by decide +kernel)
  have lf85 := hts (.fieldLink RX2 85 "HarvestLender$Farmer" "hectares" "I") (by decide +kernel)
  have lf79 := hts (.fieldLink RX2 79 "HarvestLender$Farmer" "grainCrop" "I") (by decide +kernel)
  have hcnt := hB.1.1
  have hstg := hB.1.2.2
  have hsea := hB.1.2.1
  refine lv_aload_n hx hb dX2_plant_0 rfl (lv_at hl 0 rfl) ?_
  refine lv_iload_n hx hb dX2_plant_1 rfl (lv_at hl 1 rfl) ?_
  refine k_xq (As := [.int (iI n)]) (rest := []) ⟨hx, hb, hml, hown, hts⟩ (x_farmerAt l hfl G ad cy hI σ hcnt n (by omega)) (cwV 1 hts gX2_plant_X2_farmerAt rfl rfl rfl (by decide +kernel) ⟨Nat.le_of_ble_eq_true rfl, Nat.le_of_ble_eq_true rfl⟩) (cRecvH hK hP) hAc hA hK hX hP hS rfl hl.1 rfl (Nat.le_of_ble_eq_true rfl) dX2_plant_2 ⟨Nat.le_of_ble_eq_true rfl, Nat.le_of_ble_eq_true rfl⟩ (fun E ce q9 H locs hN hP hS e1 e2 e3 => ?_) (fun h_1 H locs hP hS => ?_)
  · exact x_out hno hlocks hK hP hS e1 e2 e3 (by rw [(show kPlant σ n c h = cFarm σ n by first | rfl | (simp [kPlant, cSeq, xN_ne hN]))]; exact hN) (Nat.le_of_ble_eq_true rfl) (Nat.le_of_ble_eq_true rfl)
  have zh_1 := cFarm_0 h_1
  obtain ⟨g0, g1, g2, g3, g5, g8, g9, g11, g12, g13, g14, g15, g16, gt⟩ := hB.2.2 n.toNat (by omega)
  have gl := fLimit_b hB (i := n.toNat) (by omega)
  refine lv_astore (lv' := [(4, .ref (ad (9 + n.toNat))), (0, .ref (ad 0)), (1, .int (iI n)), (2, .int (iI c)), (3, .int (iI h))]) hx hb dX2_plant_5 hl (by decide) rfl (fun ls hl => ?_)
  refine lv_aload_n hx hb dX2_plant_7 rfl (lv_at hl 1 rfl) ?_
  refine lv_iload_n hx hb dX2_plant_8 rfl (lv_at hl 3 rfl) ?_
  refine k_xq (As := [.int (iI c)]) (rest := []) ⟨hx, hb, hml, hown, hts⟩ (x_cropAt l hfl G ad cy hI σ c (by omega)) (cwV 1 hts gX2_plant_X2_cropAt rfl rfl rfl (by decide +kernel) ⟨Nat.le_of_ble_eq_true rfl, Nat.le_of_ble_eq_true rfl⟩) (cRecvH hK hP) hAc hA hK hX hP hS rfl hl.1 rfl (Nat.le_of_ble_eq_true rfl) dX2_plant_9 ⟨Nat.le_of_ble_eq_true rfl, Nat.le_of_ble_eq_true rfl⟩ (fun E ce q9 H locs hN hP hS e1 e2 e3 => ?_) (fun h_2 H locs hP hS => ?_)
  · exact x_out hno hlocks hK hP hS e1 e2 e3 (by rw [(show kPlant σ n c h = cCrop c by first | rfl | (simp [kPlant, cSeq, h_1, xN_ne hN]))]; exact hN) (Nat.le_of_ble_eq_true rfl) (Nat.le_of_ble_eq_true rfl)
  have zh_2 := cCrop_0 h_2
  obtain ⟨p1, p2, p3⟩ := hB.2.1 c.toNat (by omega)
  refine lv_astore (lv' := [(5, .ref (ad (3 + c.toNat))), (4, .ref (ad (9 + n.toNat))), (0, .ref (ad 0)), (1, .int (iI n)), (2, .int (iI c)), (3, .int (iI h))]) hx hb dX2_plant_12 hl (by decide) rfl (fun ls hl => ?_)
  refine lv_iload_n hx hb dX2_plant_14 rfl (lv_at hl 5 rfl) ?_
  refine k_iconst hx hb dX2_plant_15 ?_
  refine k_bipush hx hb dX2_plant_16 (by decide) ?_
  refine k_xsv (As := [.int (iI h), .int (iI 1), .int (iI 50)]) (rest := []) ⟨hx, hb, hml, hown, hts⟩ (x_range l hfl G ad cy hI σ h 1 50 (by omega) (by omega) (by omega)) (va_cwS 3 hts gX2_plant_X2_requireRange rfl rfl rfl (by decide +kernel) ⟨Nat.le_of_ble_eq_true rfl, Nat.le_of_ble_eq_true rfl⟩)  hAc hA hK hX hP hS rfl hl.1 rfl (Nat.le_of_ble_eq_true rfl) dX2_plant_18 ⟨Nat.le_of_ble_eq_true rfl, Nat.le_of_ble_eq_true rfl⟩ (fun E ce q9 H locs hN hP hS e1 e2 e3 => ?_) (fun h_3 H locs hP hS => ?_)
  · exact x_out hno hlocks hK hP hS e1 e2 e3 (by rw [(show kPlant σ n c h = cRange h 1 50 by first | rfl | (simp [kPlant, cSeq, h_1, h_2, xN_ne hN]))]; exact hN) (Nat.le_of_ble_eq_true rfl) (Nat.le_of_ble_eq_true rfl)
  have zh_3 := cRange_0 h_3
  refine lv_aload_n hx hb dX2_plant_21 rfl (lv_at hl 2 rfl) ?_
  refine k_gH (v := .int (iI (σ 0 4))) hx hb hts hown hF2 hK hP 4 (by decide) lf28 dX2_plant_22 rfl rfl ?_
  refine k_if_ne (tgt := 40) hx hb dX2_plant_25 (by decide) (by omega) (fun c_4 => ?_) (fun c_4 => ?_)
  · refine k_iconst hx hb dX2_plant_40 ?_
    refine k_xsv (As := [.int (iI 0)]) (rest := []) ⟨hx, hb, hml, hown, hts⟩ (x_state l hfl G ad cy hI σ 0 (by omega)) (va_cwS 1 hts gX2_plant_X2_requireState rfl rfl rfl (by decide +kernel) ⟨Nat.le_of_ble_eq_true rfl, Nat.le_of_ble_eq_true rfl⟩)  hAc hA hK hX hP hS rfl hl.1 rfl (Nat.le_of_ble_eq_true rfl) dX2_plant_41 ⟨Nat.le_of_ble_eq_true rfl, Nat.le_of_ble_eq_true rfl⟩ (fun E ce q9 H locs hN hP hS e1 e2 e3 => ?_) (fun h9 => absurd h9 (by decide))
    exact x_out hno hlocks hK hP hS e1 e2 e3 (by rw [(show kPlant σ n c h = 3 by (simp [kPlant, cSeq, h_1, h_2, h_3, c_4] <;> omega))]; exact hN) (Nat.le_of_ble_eq_true rfl) (Nat.le_of_ble_eq_true rfl)
  · refine lv_aload hx hb dX2_plant_28 (lv_at hl 1 rfl) ?_
    refine k_ci (As := []) (rest := []) ⟨hx, hb, hml, hown, hts⟩ (c_hasPlanted l G ad cy hI σ n.toNat (by omega) (by omega)) (cwV 0 hts gX2_plant_X1_hasPlanted rfl rfl rfl (by decide +kernel) ⟨Nat.le_of_ble_eq_true rfl, Nat.le_of_ble_eq_true rfl⟩) (cRecvF hK hP (by omega)) hAc hA hK hP hS rfl hl.1 rfl (Nat.le_of_ble_eq_true rfl) dX2_plant_30 ⟨Nat.le_of_ble_eq_true rfl, Nat.le_of_ble_eq_true rfl⟩ (fun H locs hP hS => ?_)
    refine k_if_ne (tgt := 40) hx hb dX2_plant_33 (by decide) (fPl_nB _ _) (fun c_6 => ?_) (fun c_6 => ?_)
    · rw [fPl_0] at c_6
      refine k_iconst hx hb dX2_plant_40 ?_
      refine k_xsv (As := [.int (iI 0)]) (rest := []) ⟨hx, hb, hml, hown, hts⟩ (x_state l hfl G ad cy hI σ 0 (by omega)) (va_cwS 1 hts gX2_plant_X2_requireState rfl rfl rfl (by decide +kernel) ⟨Nat.le_of_ble_eq_true rfl, Nat.le_of_ble_eq_true rfl⟩)  hAc hA hK hX hP hS rfl hl.1 rfl (Nat.le_of_ble_eq_true rfl) dX2_plant_41 ⟨Nat.le_of_ble_eq_true rfl, Nat.le_of_ble_eq_true rfl⟩ (fun E ce q9 H locs hN hP hS e1 e2 e3 => ?_) (fun h9 => absurd h9 (by decide))
      exact x_out hno hlocks hK hP hS e1 e2 e3 (by rw [(show kPlant σ n c h = 3 by (simp [kPlant, cSeq, h_1, h_2, h_3, c_4, c_6] <;> omega))]; exact hN) (Nat.le_of_ble_eq_true rfl) (Nat.le_of_ble_eq_true rfl)
    · rw [fPl_0] at c_6
      refine k_iconst hx hb dX2_plant_36 ?_
      refine lv_goto (tgt := 41) hx hb dX2_plant_37 (by decide) ?_
      refine k_xsv (As := [.int (iI 1)]) (rest := []) ⟨hx, hb, hml, hown, hts⟩ (x_state l hfl G ad cy hI σ 1 (by omega)) (va_cwS 1 hts gX2_plant_X2_requireState rfl rfl rfl (by decide +kernel) ⟨Nat.le_of_ble_eq_true rfl, Nat.le_of_ble_eq_true rfl⟩)  hAc hA hK hX hP hS rfl hl.1 rfl (Nat.le_of_ble_eq_true rfl) dX2_plant_41 ⟨Nat.le_of_ble_eq_true rfl, Nat.le_of_ble_eq_true rfl⟩ (fun E ce q9 H locs hN _ _ _ _ _ => absurd rfl (xN_ne hN)) (fun _ H locs hP hS => ?_)
      refine lv_aload hx hb dX2_plant_44 (lv_at hl 1 rfl) ?_
      refine k_gF (i := n.toNat) (v := .int (iI (σ (9 + n.toNat) 9))) hx hb hts hown hF1 hK hP (by omega) 9 (by decide) lf76 dX2_plant_46 rfl rfl ?_
      refine k_if_eq (tgt := 61) hx hb dX2_plant_49 (by decide) (by omega) (fun c_9 => ?_) (fun c_9 => ?_)
      · refine k_iconst hx hb dX2_plant_61 ?_
        refine lv_goto (tgt := 66) hx hb dX2_plant_62 (by decide) ?_
        refine k_xsv (As := [.int (iI 1)]) (rest := []) ⟨hx, hb, hml, hown, hts⟩ (x_state l hfl G ad cy hI σ 1 (by omega)) (va_cwS 1 hts gX2_plant_X2_requireState rfl rfl rfl (by decide +kernel) ⟨Nat.le_of_ble_eq_true rfl, Nat.le_of_ble_eq_true rfl⟩)  hAc hA hK hX hP hS rfl hl.1 rfl (Nat.le_of_ble_eq_true rfl) dX2_plant_66 ⟨Nat.le_of_ble_eq_true rfl, Nat.le_of_ble_eq_true rfl⟩ (fun E ce q9 H locs hN _ _ _ _ _ => absurd rfl (xN_ne hN)) (fun _ H locs hP hS => ?_)
        refine lv_aload hx hb dX2_plant_69 (lv_at hl 1 rfl) ?_
        refine lv_iload_n hx hb dX2_plant_71 rfl (lv_at hl 4 rfl) ?_
        refine k_pFi (i := n.toNat) (v := c) hx hb hts hown hF1 hI hAc hK hP hS (by omega) 12 rfl (by decide) lf82 dX2_plant_72 rfl rfl (by decide +kernel) (fun H locs hP hS => ?_)
        refine lv_aload hx hb dX2_plant_75 (lv_at hl 1 rfl) ?_
        refine lv_iload_n hx hb dX2_plant_77 rfl (lv_at hl 5 rfl) ?_
        refine k_pFi (i := n.toNat) (v := h) hx hb hts hown hF1 hI hAc hK hP hS (by omega) 13 rfl (by decide) lf85 dX2_plant_78 rfl rfl (by decide +kernel) (fun H locs hP hS => ?_)
        refine lv_aload hx hb dX2_plant_81 (lv_at hl 0 rfl) ?_
        refine lv_aload_n hx hb dX2_plant_83 rfl (lv_at hl 2 rfl) ?_
        refine k_gH (v := .int (iI (σ 0 4))) hx hb hts hown hF2 hK hP 4 (by decide) lf28 dX2_plant_84 rfl (congrArg (fun z => some (Value.int (iI z))) (by simp [up] : (up (up σ (9 + n.toNat) 12 c) (9 + n.toNat) 13 h) 0 4 = σ 0 4)) ?_
        refine k_ci (As := [.int (iI (σ 0 4))]) (rest := []) ⟨hx, hb, hml, hown, hts⟩ (c_needUp l G ad cy hI (up (up σ (9 + n.toNat) 12 c) (9 + n.toNat) 13 h) c.toNat (by omega) (σ 0 4) (by omega)) (cwV 1 hts gX2_plant_X0_needUpTo rfl rfl rfl (by decide +kernel) ⟨Nat.le_of_ble_eq_true rfl, Nat.le_of_ble_eq_true rfl⟩) (cRecvC hK hP (by omega)) hAc hA hK hP hS rfl hl.1 rfl (Nat.le_of_ble_eq_true rfl) dX2_plant_87 ⟨Nat.le_of_ble_eq_true rfl, Nat.le_of_ble_eq_true rfl⟩ (fun H locs hP hS => ?_)
        refine lv_iload_n hx hb dX2_plant_90 rfl (lv_at hl 5 rfl) ?_
        refine k_imul hx hb dX2_plant_91 ?_
        have eF : up (up σ (9 + n.toNat) 12 c) (9 + n.toNat) 13 h = fPlant σ n.toNat c h := by first | rfl | (simp only [fPlant, up_s]; done) | (simp only [fPlant, up_s]; repeat' split) <;> first | rfl | (exfalso; omega) | omega
        rw [eF] at hP
        have e0 : kPlant σ n c h = 0 := by (simp [kPlant, cSeq, h_1, h_2, h_3, c_4, c_6, c_9] <;> omega)
        have eR : (fNeedUp (up (up σ (9 + n.toNat) 12 c) (9 + n.toNat) 13 h) c.toNat (σ 0 4)) * h = fNeedUp σ c.toNat (σ 0 4) * h := by (rw [fNeedUp_up (by omega), fNeedUp_up (by omega)])
        exact x_iret hx hb hr hlocks hK hP hS e0 eR dX2_plant_92 (Nat.le_of_ble_eq_true rfl) (Nat.le_of_ble_eq_true rfl)
      · refine lv_aload hx hb dX2_plant_52 (lv_at hl 1 rfl) ?_
        refine k_gF (i := n.toNat) (v := .int (iI (σ (9 + n.toNat) 11))) hx hb hts hown hF1 hK hP (by omega) 11 (by decide) lf79 dX2_plant_54 rfl rfl ?_
        refine lv_iload_n hx hb dX2_plant_57 rfl (lv_at hl 4 rfl) ?_
        refine k_icmp_ne (tgt := 65) hx hb dX2_plant_58 (by decide) (by omega) (by omega) (fun c_11 => ?_) (fun c_11 => ?_)
        · refine k_iconst hx hb dX2_plant_65 ?_
          refine k_xsv (As := [.int (iI 0)]) (rest := []) ⟨hx, hb, hml, hown, hts⟩ (x_state l hfl G ad cy hI σ 0 (by omega)) (va_cwS 1 hts gX2_plant_X2_requireState rfl rfl rfl (by decide +kernel) ⟨Nat.le_of_ble_eq_true rfl, Nat.le_of_ble_eq_true rfl⟩)  hAc hA hK hX hP hS rfl hl.1 rfl (Nat.le_of_ble_eq_true rfl) dX2_plant_66 ⟨Nat.le_of_ble_eq_true rfl, Nat.le_of_ble_eq_true rfl⟩ (fun E ce q9 H locs hN hP hS e1 e2 e3 => ?_) (fun h9 => absurd h9 (by decide))
          exact x_out hno hlocks hK hP hS e1 e2 e3 (by rw [(show kPlant σ n c h = 3 by (simp [kPlant, cSeq, h_1, h_2, h_3, c_4, c_6, c_9, c_11] <;> omega))]; exact hN) (Nat.le_of_ble_eq_true rfl) (Nat.le_of_ble_eq_true rfl)
        · refine k_iconst hx hb dX2_plant_61 ?_
          refine lv_goto (tgt := 66) hx hb dX2_plant_62 (by decide) ?_
          refine k_xsv (As := [.int (iI 1)]) (rest := []) ⟨hx, hb, hml, hown, hts⟩ (x_state l hfl G ad cy hI σ 1 (by omega)) (va_cwS 1 hts gX2_plant_X2_requireState rfl rfl rfl (by decide +kernel) ⟨Nat.le_of_ble_eq_true rfl, Nat.le_of_ble_eq_true rfl⟩)  hAc hA hK hX hP hS rfl hl.1 rfl (Nat.le_of_ble_eq_true rfl) dX2_plant_66 ⟨Nat.le_of_ble_eq_true rfl, Nat.le_of_ble_eq_true rfl⟩ (fun E ce q9 H locs hN _ _ _ _ _ => absurd rfl (xN_ne hN)) (fun _ H locs hP hS => ?_)
          refine lv_aload hx hb dX2_plant_69 (lv_at hl 1 rfl) ?_
          refine lv_iload_n hx hb dX2_plant_71 rfl (lv_at hl 4 rfl) ?_
          refine k_pFi (i := n.toNat) (v := c) hx hb hts hown hF1 hI hAc hK hP hS (by omega) 12 rfl (by decide) lf82 dX2_plant_72 rfl rfl (by decide +kernel) (fun H locs hP hS => ?_)
          refine lv_aload hx hb dX2_plant_75 (lv_at hl 1 rfl) ?_
          refine lv_iload_n hx hb dX2_plant_77 rfl (lv_at hl 5 rfl) ?_
          refine k_pFi (i := n.toNat) (v := h) hx hb hts hown hF1 hI hAc hK hP hS (by omega) 13 rfl (by decide) lf85 dX2_plant_78 rfl rfl (by decide +kernel) (fun H locs hP hS => ?_)
          refine lv_aload hx hb dX2_plant_81 (lv_at hl 0 rfl) ?_
          refine lv_aload_n hx hb dX2_plant_83 rfl (lv_at hl 2 rfl) ?_
          refine k_gH (v := .int (iI (σ 0 4))) hx hb hts hown hF2 hK hP 4 (by decide) lf28 dX2_plant_84 rfl (congrArg (fun z => some (Value.int (iI z))) (by simp [up] : (up (up σ (9 + n.toNat) 12 c) (9 + n.toNat) 13 h) 0 4 = σ 0 4)) ?_
          refine k_ci (As := [.int (iI (σ 0 4))]) (rest := []) ⟨hx, hb, hml, hown, hts⟩ (c_needUp l G ad cy hI (up (up σ (9 + n.toNat) 12 c) (9 + n.toNat) 13 h) c.toNat (by omega) (σ 0 4) (by omega)) (cwV 1 hts gX2_plant_X0_needUpTo rfl rfl rfl (by decide +kernel) ⟨Nat.le_of_ble_eq_true rfl, Nat.le_of_ble_eq_true rfl⟩) (cRecvC hK hP (by omega)) hAc hA hK hP hS rfl hl.1 rfl (Nat.le_of_ble_eq_true rfl) dX2_plant_87 ⟨Nat.le_of_ble_eq_true rfl, Nat.le_of_ble_eq_true rfl⟩ (fun H locs hP hS => ?_)
          refine lv_iload_n hx hb dX2_plant_90 rfl (lv_at hl 5 rfl) ?_
          refine k_imul hx hb dX2_plant_91 ?_
          have eF : up (up σ (9 + n.toNat) 12 c) (9 + n.toNat) 13 h = fPlant σ n.toNat c h := by first | rfl | (simp only [fPlant, up_s]; done) | (simp only [fPlant, up_s]; repeat' split) <;> first | rfl | (exfalso; omega) | omega
          rw [eF] at hP
          have e0 : kPlant σ n c h = 0 := by (simp [kPlant, cSeq, h_1, h_2, h_3, c_4, c_6, c_9, c_11] <;> omega)
          have eR : (fNeedUp (up (up σ (9 + n.toNat) 12 c) (9 + n.toNat) 13 h) c.toNat (σ 0 4)) * h = fNeedUp σ c.toNat (σ 0 4) * h := by (rw [fNeedUp_up (by omega), fNeedUp_up (by omega)])
          exact x_iret hx hb hr hlocks hK hP hS e0 eR dX2_plant_92 (Nat.le_of_ble_eq_true rfl) (Nat.le_of_ble_eq_true rfl)
set_option maxHeartbeats 4000000 in
set_option maxRecDepth 100000 in
theorem h_cover (l : Launch) (hfl : l.stackTraces = false) (G : va_G) (ad : Nat → Nat) (cy : Nat → ClassId) (hI : cI ad) (σ : Sg) (hB : cBd σ) (n x : Int) (hn : nB n) (hx : nB x) : xMi l yX2_cover wsX2_cover ({ frames := 7, cells := 3, slots := 18, locals := 106 } : Room) G ad cy [.ref (ad 0), .int (iI n), .int (iI x)] σ (kCover σ n x) (σ (9 + n.toNat) 14) (up σ (9 + n.toNat) 14 x) 3 := by
  intro sz
  refine vx_ofW (cc := cX2_cover) (maxL := 5) (ret := (some .int)) (by decide) rfl ?_
  intro p e s m args below meth cd s₁ B hml hno hv
  obtain ⟨rfl, hsz, hP, hK, hX⟩ := hv
  have hx := B.exec
  have hb := B.bytes
  have hr := B.returns
  have hts := atoms_spec (ws := wsX2_cover) B.pre
  have hown : s.vm.findClass RX2 = some m.cls := findClass_of_methodNamed B.named
  have hlocks := B.notSynchronized
  subst hsz
  have hS : va_S (cA ad s.heap.size) s.heap s.heap [] := va_S.rf
  have hA : ∀ q, s.heap.size ≤ q → cA ad s.heap.size q := fun _ h => Or.inr h
  have hAc : ∀ j, j < 33 → cA ad s.heap.size (ad j) := fun j h => Or.inl ⟨j, h, rfl⟩
  have hl := lv_entry ([.ref (ad 0), .int (iI n), .int (iI x)]) (n := 5) (Nat.le_of_ble_eq_true rfl)
  rw [lg_entry_eq]
  generalize (lg_sl ([.ref (ad 0), .int (iI n), .int (iI x)]) ++ List.replicate (5 - (lg_sl ([.ref (ad 0), .int (iI n), .int (iI x)])).length) Slot.unset).toArray = ls at hl ⊢
  have hl : lv_has ls 5 [(0, .ref (ad 0)), (1, .int (iI n)), (2, .int (iI x))] := hl
  have hF1 : ∀ w ∈ wsX10, w ∈ wsX2_cover := by decide +kernel
  have hF2 : ∀ w ∈ wsX20, w ∈ wsX2_cover := by decide +kernel
  have lf28 := hts (.fieldLink RX2 28 "HarvestLender" "stage" "I") (by decide +kernel)
  have lf92 := hts (.fieldLink RX2 92 "HarvestLender$Farmer" "coverPercent" "I") (by decide +kernel)
  have hcnt := hB.1.1
  have hstg := hB.1.2.2
  have hsea := hB.1.2.1
  refine lv_aload_n hx hb dX2_cover_0 rfl (lv_at hl 0 rfl) ?_
  refine lv_iload_n hx hb dX2_cover_1 rfl (lv_at hl 1 rfl) ?_
  refine k_xq (As := [.int (iI n)]) (rest := []) ⟨hx, hb, hml, hown, hts⟩ (x_farmerAt l hfl G ad cy hI σ hcnt n (by omega)) (cwV 1 hts gX2_cover_X2_farmerAt rfl rfl rfl (by decide +kernel) ⟨Nat.le_of_ble_eq_true rfl, Nat.le_of_ble_eq_true rfl⟩) (cRecvH hK hP) hAc hA hK hX hP hS rfl hl.1 rfl (Nat.le_of_ble_eq_true rfl) dX2_cover_2 ⟨Nat.le_of_ble_eq_true rfl, Nat.le_of_ble_eq_true rfl⟩ (fun E ce q9 H locs hN hP hS e1 e2 e3 => ?_) (fun h_1 H locs hP hS => ?_)
  · exact x_out hno hlocks hK hP hS e1 e2 e3 (by rw [(show kCover σ n x = cFarm σ n by first | rfl | (simp [kCover, cSeq, xN_ne hN]))]; exact hN) (Nat.le_of_ble_eq_true rfl) (Nat.le_of_ble_eq_true rfl)
  have zh_1 := cFarm_0 h_1
  obtain ⟨g0, g1, g2, g3, g5, g8, g9, g11, g12, g13, g14, g15, g16, gt⟩ := hB.2.2 n.toNat (by omega)
  have gl := fLimit_b hB (i := n.toNat) (by omega)
  refine lv_astore_n (lv' := [(3, .ref (ad (9 + n.toNat))), (0, .ref (ad 0)), (1, .int (iI n)), (2, .int (iI x))]) hx hb dX2_cover_5 rfl hl (by decide) rfl (fun ls hl => ?_)
  refine lv_iload_n hx hb dX2_cover_6 rfl (lv_at hl 3 rfl) ?_
  refine k_iconst hx hb dX2_cover_7 ?_
  refine k_bipush hx hb dX2_cover_8 (by decide) ?_
  refine k_xsv (As := [.int (iI x), .int (iI 1), .int (iI 90)]) (rest := []) ⟨hx, hb, hml, hown, hts⟩ (x_range l hfl G ad cy hI σ x 1 90 (by omega) (by omega) (by omega)) (va_cwS 3 hts gX2_cover_X2_requireRange rfl rfl rfl (by decide +kernel) ⟨Nat.le_of_ble_eq_true rfl, Nat.le_of_ble_eq_true rfl⟩)  hAc hA hK hX hP hS rfl hl.1 rfl (Nat.le_of_ble_eq_true rfl) dX2_cover_10 ⟨Nat.le_of_ble_eq_true rfl, Nat.le_of_ble_eq_true rfl⟩ (fun E ce q9 H locs hN hP hS e1 e2 e3 => ?_) (fun h_2 H locs hP hS => ?_)
  · exact x_out hno hlocks hK hP hS e1 e2 e3 (by rw [(show kCover σ n x = cRange x 1 90 by first | rfl | (simp [kCover, cSeq, h_1, xN_ne hN]))]; exact hN) (Nat.le_of_ble_eq_true rfl) (Nat.le_of_ble_eq_true rfl)
  have zh_2 := cRange_0 h_2
  refine lv_aload_n hx hb dX2_cover_13 rfl (lv_at hl 1 rfl) ?_
  refine k_gH (v := .int (iI (σ 0 4))) hx hb hts hown hF2 hK hP 4 (by decide) lf28 dX2_cover_14 rfl rfl ?_
  refine k_if_ne (tgt := 31) hx hb dX2_cover_17 (by decide) (by omega) (fun c_3 => ?_) (fun c_3 => ?_)
  · refine k_iconst hx hb dX2_cover_31 ?_
    refine k_xsv (As := [.int (iI 0)]) (rest := []) ⟨hx, hb, hml, hown, hts⟩ (x_state l hfl G ad cy hI σ 0 (by omega)) (va_cwS 1 hts gX2_cover_X2_requireState rfl rfl rfl (by decide +kernel) ⟨Nat.le_of_ble_eq_true rfl, Nat.le_of_ble_eq_true rfl⟩)  hAc hA hK hX hP hS rfl hl.1 rfl (Nat.le_of_ble_eq_true rfl) dX2_cover_32 ⟨Nat.le_of_ble_eq_true rfl, Nat.le_of_ble_eq_true rfl⟩ (fun E ce q9 H locs hN hP hS e1 e2 e3 => ?_) (fun h9 => absurd h9 (by decide))
    exact x_out hno hlocks hK hP hS e1 e2 e3 (by rw [(show kCover σ n x = 3 by (simp [kCover, cSeq, h_1, h_2, c_3] <;> omega))]; exact hN) (Nat.le_of_ble_eq_true rfl) (Nat.le_of_ble_eq_true rfl)
  · refine lv_aload_n hx hb dX2_cover_20 rfl (lv_at hl 0 rfl) ?_
    refine k_ci (As := []) (rest := []) ⟨hx, hb, hml, hown, hts⟩ (c_hasPlanted l G ad cy hI σ n.toNat (by omega) (by omega)) (cwV 0 hts gX2_cover_X1_hasPlanted rfl rfl rfl (by decide +kernel) ⟨Nat.le_of_ble_eq_true rfl, Nat.le_of_ble_eq_true rfl⟩) (cRecvF hK hP (by omega)) hAc hA hK hP hS rfl hl.1 rfl (Nat.le_of_ble_eq_true rfl) dX2_cover_21 ⟨Nat.le_of_ble_eq_true rfl, Nat.le_of_ble_eq_true rfl⟩ (fun H locs hP hS => ?_)
    refine k_if_eq (tgt := 31) hx hb dX2_cover_24 (by decide) (fPl_nB _ _) (fun c_5 => ?_) (fun c_5 => ?_)
    · rw [fPl_0] at c_5
      refine k_iconst hx hb dX2_cover_31 ?_
      refine k_xsv (As := [.int (iI 0)]) (rest := []) ⟨hx, hb, hml, hown, hts⟩ (x_state l hfl G ad cy hI σ 0 (by omega)) (va_cwS 1 hts gX2_cover_X2_requireState rfl rfl rfl (by decide +kernel) ⟨Nat.le_of_ble_eq_true rfl, Nat.le_of_ble_eq_true rfl⟩)  hAc hA hK hX hP hS rfl hl.1 rfl (Nat.le_of_ble_eq_true rfl) dX2_cover_32 ⟨Nat.le_of_ble_eq_true rfl, Nat.le_of_ble_eq_true rfl⟩ (fun E ce q9 H locs hN hP hS e1 e2 e3 => ?_) (fun h9 => absurd h9 (by decide))
      exact x_out hno hlocks hK hP hS e1 e2 e3 (by rw [(show kCover σ n x = 3 by (simp [kCover, cSeq, h_1, h_2, c_3, c_5] <;> omega))]; exact hN) (Nat.le_of_ble_eq_true rfl) (Nat.le_of_ble_eq_true rfl)
    · rw [fPl_0] at c_5
      refine k_iconst hx hb dX2_cover_27 ?_
      refine lv_goto (tgt := 32) hx hb dX2_cover_28 (by decide) ?_
      refine k_xsv (As := [.int (iI 1)]) (rest := []) ⟨hx, hb, hml, hown, hts⟩ (x_state l hfl G ad cy hI σ 1 (by omega)) (va_cwS 1 hts gX2_cover_X2_requireState rfl rfl rfl (by decide +kernel) ⟨Nat.le_of_ble_eq_true rfl, Nat.le_of_ble_eq_true rfl⟩)  hAc hA hK hX hP hS rfl hl.1 rfl (Nat.le_of_ble_eq_true rfl) dX2_cover_32 ⟨Nat.le_of_ble_eq_true rfl, Nat.le_of_ble_eq_true rfl⟩ (fun E ce q9 H locs hN _ _ _ _ _ => absurd rfl (xN_ne hN)) (fun _ H locs hP hS => ?_)
      refine lv_aload_n hx hb dX2_cover_35 rfl (lv_at hl 0 rfl) ?_
      refine k_gF (i := n.toNat) (v := .int (iI (σ (9 + n.toNat) 14))) hx hb hts hown hF1 hK hP (by omega) 14 (by decide) lf92 dX2_cover_36 rfl rfl ?_
      refine lv_istore (lv' := [(4, .int (iI (σ (9 + n.toNat) 14))), (3, .ref (ad (9 + n.toNat))), (0, .ref (ad 0)), (1, .int (iI n)), (2, .int (iI x))]) hx hb dX2_cover_39 hl (by decide) rfl (fun ls hl => ?_)
      refine lv_aload_n hx hb dX2_cover_41 rfl (lv_at hl 1 rfl) ?_
      refine lv_iload_n hx hb dX2_cover_42 rfl (lv_at hl 4 rfl) ?_
      refine k_pFi (i := n.toNat) (v := x) hx hb hts hown hF1 hI hAc hK hP hS (by omega) 14 rfl (by decide) lf92 dX2_cover_43 rfl rfl (by decide +kernel) (fun H locs hP hS => ?_)
      refine lv_iload hx hb dX2_cover_46 (lv_at hl 0 rfl) ?_
      have e0 : kCover σ n x = 0 := by (simp [kCover, cSeq, h_1, h_2, c_3, c_5] <;> omega)
      have eR : σ (9 + n.toNat) 14 = σ (9 + n.toNat) 14 := by rfl
      exact x_iret hx hb hr hlocks hK hP hS e0 eR dX2_cover_48 (Nat.le_of_ble_eq_true rfl) (Nat.le_of_ble_eq_true rfl)
set_option maxHeartbeats 4000000 in
set_option maxRecDepth 100000 in
theorem h_setYield (l : Launch) (hfl : l.stackTraces = false) (G : va_G) (ad : Nat → Nat) (cy : Nat → ClassId) (hI : cI ad) (σ : Sg) (hB : cBd σ) (n x : Int) (hn : nB n) (hx : nB x) : xMi l yX2_setYield wsX2_setYield ({ frames := 7, cells := 3, slots := 18, locals := 106 } : Room) G ad cy [.ref (ad 0), .int (iI n), .int (iI x)] σ (kYield σ n x) (σ (9 + n.toNat) 15) (up σ (9 + n.toNat) 15 x) 3 := by
  intro sz
  refine vx_ofW (cc := cX2_setYield) (maxL := 5) (ret := (some .int)) (by decide) rfl ?_
  intro p e s m args below meth cd s₁ B hml hno hv
  obtain ⟨rfl, hsz, hP, hK, hX⟩ := hv
  have hx := B.exec
  have hb := B.bytes
  have hr := B.returns
  have hts := atoms_spec (ws := wsX2_setYield) B.pre
  have hown : s.vm.findClass RX2 = some m.cls := findClass_of_methodNamed B.named
  have hlocks := B.notSynchronized
  subst hsz
  have hS : va_S (cA ad s.heap.size) s.heap s.heap [] := va_S.rf
  have hA : ∀ q, s.heap.size ≤ q → cA ad s.heap.size q := fun _ h => Or.inr h
  have hAc : ∀ j, j < 33 → cA ad s.heap.size (ad j) := fun j h => Or.inl ⟨j, h, rfl⟩
  have hl := lv_entry ([.ref (ad 0), .int (iI n), .int (iI x)]) (n := 5) (Nat.le_of_ble_eq_true rfl)
  rw [lg_entry_eq]
  generalize (lg_sl ([.ref (ad 0), .int (iI n), .int (iI x)]) ++ List.replicate (5 - (lg_sl ([.ref (ad 0), .int (iI n), .int (iI x)])).length) Slot.unset).toArray = ls at hl ⊢
  have hl : lv_has ls 5 [(0, .ref (ad 0)), (1, .int (iI n)), (2, .int (iI x))] := hl
  have hF1 : ∀ w ∈ wsX10, w ∈ wsX2_setYield := by decide +kernel
  have hF2 : ∀ w ∈ wsX20, w ∈ wsX2_setYield := by decide +kernel
  have lf28 := hts (.fieldLink RX2 28 "HarvestLender" "stage" "I") (by decide +kernel)
  have lf107 := hts (.fieldLink RX2 107 "HarvestLender$Farmer" "yieldPercent" "I") (by decide +kernel)
  have hcnt := hB.1.1
  have hstg := hB.1.2.2
  have hsea := hB.1.2.1
  refine lv_aload_n hx hb dX2_setYield_0 rfl (lv_at hl 0 rfl) ?_
  refine lv_iload_n hx hb dX2_setYield_1 rfl (lv_at hl 1 rfl) ?_
  refine k_xq (As := [.int (iI n)]) (rest := []) ⟨hx, hb, hml, hown, hts⟩ (x_farmerAt l hfl G ad cy hI σ hcnt n (by omega)) (cwV 1 hts gX2_setYield_X2_farmerAt rfl rfl rfl (by decide +kernel) ⟨Nat.le_of_ble_eq_true rfl, Nat.le_of_ble_eq_true rfl⟩) (cRecvH hK hP) hAc hA hK hX hP hS rfl hl.1 rfl (Nat.le_of_ble_eq_true rfl) dX2_setYield_2 ⟨Nat.le_of_ble_eq_true rfl, Nat.le_of_ble_eq_true rfl⟩ (fun E ce q9 H locs hN hP hS e1 e2 e3 => ?_) (fun h_1 H locs hP hS => ?_)
  · exact x_out hno hlocks hK hP hS e1 e2 e3 (by rw [(show kYield σ n x = cFarm σ n by first | rfl | (simp [kYield, cSeq, xN_ne hN]))]; exact hN) (Nat.le_of_ble_eq_true rfl) (Nat.le_of_ble_eq_true rfl)
  have zh_1 := cFarm_0 h_1
  obtain ⟨g0, g1, g2, g3, g5, g8, g9, g11, g12, g13, g14, g15, g16, gt⟩ := hB.2.2 n.toNat (by omega)
  have gl := fLimit_b hB (i := n.toNat) (by omega)
  refine lv_astore_n (lv' := [(3, .ref (ad (9 + n.toNat))), (0, .ref (ad 0)), (1, .int (iI n)), (2, .int (iI x))]) hx hb dX2_setYield_5 rfl hl (by decide) rfl (fun ls hl => ?_)
  refine lv_iload_n hx hb dX2_setYield_6 rfl (lv_at hl 3 rfl) ?_
  refine k_iconst hx hb dX2_setYield_7 ?_
  refine k_sipush hx hb dX2_setYield_8 (by decide) ?_
  refine k_xsv (As := [.int (iI x), .int (iI 0), .int (iI 200)]) (rest := []) ⟨hx, hb, hml, hown, hts⟩ (x_range l hfl G ad cy hI σ x 0 200 (by omega) (by omega) (by omega)) (va_cwS 3 hts gX2_setYield_X2_requireRange rfl rfl rfl (by decide +kernel) ⟨Nat.le_of_ble_eq_true rfl, Nat.le_of_ble_eq_true rfl⟩)  hAc hA hK hX hP hS rfl hl.1 rfl (Nat.le_of_ble_eq_true rfl) dX2_setYield_11 ⟨Nat.le_of_ble_eq_true rfl, Nat.le_of_ble_eq_true rfl⟩ (fun E ce q9 H locs hN hP hS e1 e2 e3 => ?_) (fun h_2 H locs hP hS => ?_)
  · exact x_out hno hlocks hK hP hS e1 e2 e3 (by rw [(show kYield σ n x = cRange x 0 200 by first | rfl | (simp [kYield, cSeq, h_1, xN_ne hN]))]; exact hN) (Nat.le_of_ble_eq_true rfl) (Nat.le_of_ble_eq_true rfl)
  have zh_2 := cRange_0 h_2
  refine lv_aload_n hx hb dX2_setYield_14 rfl (lv_at hl 1 rfl) ?_
  refine k_gH (v := .int (iI (σ 0 4))) hx hb hts hown hF2 hK hP 4 (by decide) lf28 dX2_setYield_15 rfl rfl ?_
  refine k_iconst hx hb dX2_setYield_18 ?_
  refine k_icmp_ge (tgt := 26) hx hb dX2_setYield_19 (by decide) (by omega) (by decide) (fun c_3 => ?_) (fun c_3 => ?_)
  · refine k_iconst hx hb dX2_setYield_26 ?_
    refine k_xsv (As := [.int (iI 0)]) (rest := []) ⟨hx, hb, hml, hown, hts⟩ (x_state l hfl G ad cy hI σ 0 (by omega)) (va_cwS 1 hts gX2_setYield_X2_requireState rfl rfl rfl (by decide +kernel) ⟨Nat.le_of_ble_eq_true rfl, Nat.le_of_ble_eq_true rfl⟩)  hAc hA hK hX hP hS rfl hl.1 rfl (Nat.le_of_ble_eq_true rfl) dX2_setYield_27 ⟨Nat.le_of_ble_eq_true rfl, Nat.le_of_ble_eq_true rfl⟩ (fun E ce q9 H locs hN hP hS e1 e2 e3 => ?_) (fun h9 => absurd h9 (by decide))
    exact x_out hno hlocks hK hP hS e1 e2 e3 (by rw [(show kYield σ n x = 3 by (simp [kYield, cSeq, h_1, h_2, c_3] <;> omega))]; exact hN) (Nat.le_of_ble_eq_true rfl) (Nat.le_of_ble_eq_true rfl)
  · refine k_iconst hx hb dX2_setYield_22 ?_
    refine lv_goto (tgt := 27) hx hb dX2_setYield_23 (by decide) ?_
    refine k_xsv (As := [.int (iI 1)]) (rest := []) ⟨hx, hb, hml, hown, hts⟩ (x_state l hfl G ad cy hI σ 1 (by omega)) (va_cwS 1 hts gX2_setYield_X2_requireState rfl rfl rfl (by decide +kernel) ⟨Nat.le_of_ble_eq_true rfl, Nat.le_of_ble_eq_true rfl⟩)  hAc hA hK hX hP hS rfl hl.1 rfl (Nat.le_of_ble_eq_true rfl) dX2_setYield_27 ⟨Nat.le_of_ble_eq_true rfl, Nat.le_of_ble_eq_true rfl⟩ (fun E ce q9 H locs hN _ _ _ _ _ => absurd rfl (xN_ne hN)) (fun _ H locs hP hS => ?_)
    refine lv_aload_n hx hb dX2_setYield_30 rfl (lv_at hl 0 rfl) ?_
    refine k_gF (i := n.toNat) (v := .int (iI (σ (9 + n.toNat) 15))) hx hb hts hown hF1 hK hP (by omega) 15 (by decide) lf107 dX2_setYield_31 rfl rfl ?_
    refine lv_istore (lv' := [(4, .int (iI (σ (9 + n.toNat) 15))), (3, .ref (ad (9 + n.toNat))), (0, .ref (ad 0)), (1, .int (iI n)), (2, .int (iI x))]) hx hb dX2_setYield_34 hl (by decide) rfl (fun ls hl => ?_)
    refine lv_aload_n hx hb dX2_setYield_36 rfl (lv_at hl 1 rfl) ?_
    refine lv_iload_n hx hb dX2_setYield_37 rfl (lv_at hl 4 rfl) ?_
    refine k_pFi (i := n.toNat) (v := x) hx hb hts hown hF1 hI hAc hK hP hS (by omega) 15 rfl (by decide) lf107 dX2_setYield_38 rfl rfl (by decide +kernel) (fun H locs hP hS => ?_)
    refine lv_iload hx hb dX2_setYield_41 (lv_at hl 0 rfl) ?_
    have e0 : kYield σ n x = 0 := by (simp [kYield, cSeq, h_1, h_2, c_3] <;> omega)
    have eR : σ (9 + n.toNat) 15 = σ (9 + n.toNat) 15 := by rfl
    exact x_iret hx hb hr hlocks hK hP hS e0 eR dX2_setYield_43 (Nat.le_of_ble_eq_true rfl) (Nat.le_of_ble_eq_true rfl)
set_option maxHeartbeats 4000000 in
set_option maxRecDepth 100000 in
theorem h_limitOf (l : Launch) (hfl : l.stackTraces = false) (G : va_G) (ad : Nat → Nat) (cy : Nat → ClassId) (hI : cI ad) (σ : Sg) (hB : cBd σ) (i : Nat) (hi : i < 8) : xMi l yX2_limitOf wsX2_limitOf ({ frames := 7, cells := 1, slots := 6, locals := 105 } : Room) G ad cy [.ref (ad 0), .ref (ad (9 + i))] σ 0 (fLimit σ i) σ 1 := by
  intro sz
  refine vx_ofW (cc := cX2_limitOf) (maxL := 2) (ret := (some .int)) (by decide) rfl ?_
  intro p e s m args below meth cd s₁ B hml hno hv
  obtain ⟨rfl, hsz, hP, hK, hX⟩ := hv
  have hx := B.exec
  have hb := B.bytes
  have hr := B.returns
  have hts := atoms_spec (ws := wsX2_limitOf) B.pre
  have hown : s.vm.findClass RX2 = some m.cls := findClass_of_methodNamed B.named
  have hlocks := B.notSynchronized
  subst hsz
  have hS : va_S (cA ad s.heap.size) s.heap s.heap [] := va_S.rf
  have hA : ∀ q, s.heap.size ≤ q → cA ad s.heap.size q := fun _ h => Or.inr h
  have hAc : ∀ j, j < 33 → cA ad s.heap.size (ad j) := fun j h => Or.inl ⟨j, h, rfl⟩
  have hl := lv_entry ([.ref (ad 0), .ref (ad (9 + i))]) (n := 2) (Nat.le_of_ble_eq_true rfl)
  rw [lg_entry_eq]
  generalize (lg_sl ([.ref (ad 0), .ref (ad (9 + i))]) ++ List.replicate (2 - (lg_sl ([.ref (ad 0), .ref (ad (9 + i))])).length) Slot.unset).toArray = ls at hl ⊢
  have hl : lv_has ls 2 [(0, .ref (ad 0)), (1, .ref (ad (9 + i)))] := hl
  have hF1 : ∀ w ∈ wsX10, w ∈ wsX2_limitOf := by decide +kernel
  have hF2 : ∀ w ∈ wsX20, w ∈ wsX2_limitOf := by decide +kernel
  have lf82 := hts (.fieldLink RX2 82 "HarvestLender$Farmer" "plantedCrop" "I") (by decide +kernel)
  have lf28 := hts (.fieldLink RX2 28 "HarvestLender" "stage" "I") (by decide +kernel)
  have lf85 := hts (.fieldLink RX2 85 "HarvestLender$Farmer" "hectares" "I") (by decide +kernel)
  have hstg := hB.1.2.2
  obtain ⟨g0, g1, g2, g3, g5, g8, g9, g11, g12, g13, g14, g15, g16, gt⟩ := hB.2.2 i hi
  refine lv_aload_n hx hb dX2_limitOf_0 rfl (lv_at hl 1 rfl) ?_
  refine k_ci (As := []) (rest := []) ⟨hx, hb, hml, hown, hts⟩ (c_hasPlanted l G ad cy hI σ i hi (by omega)) (cwV 0 hts gX2_limitOf_X1_hasPlanted rfl rfl rfl (by decide +kernel) ⟨Nat.le_of_ble_eq_true rfl, Nat.le_of_ble_eq_true rfl⟩) (cRecvF hK hP hi) hAc hA hK hP hS rfl hl.1 rfl (Nat.le_of_ble_eq_true rfl) dX2_limitOf_1 ⟨Nat.le_of_ble_eq_true rfl, Nat.le_of_ble_eq_true rfl⟩ (fun H locs hP hS => ?_)
  refine k_if_ne (tgt := 9) hx hb dX2_limitOf_4 (by decide) (fPl_nB _ _) (fun c_1 => ?_) (fun c_1 => ?_)
  · rw [fPl_0] at c_1
    refine lv_aload_n hx hb dX2_limitOf_9 rfl (lv_at hl 0 rfl) ?_
    refine lv_aload_n hx hb dX2_limitOf_10 rfl (lv_at hl 1 rfl) ?_
    refine k_gF (i := i) (v := .int (iI (σ (9 + i) 12))) hx hb hts hown hF1 hK hP hi 12 (by decide) lf82 dX2_limitOf_11 rfl rfl ?_
    refine k_xq (As := [.int (iI (σ (9 + i) 12))]) (rest := []) ⟨hx, hb, hml, hown, hts⟩ (x_cropAt l hfl G ad cy hI σ (σ (9 + i) 12) (by omega)) (cwV 1 hts gX2_limitOf_X2_cropAt rfl rfl rfl (by decide +kernel) ⟨Nat.le_of_ble_eq_true rfl, Nat.le_of_ble_eq_true rfl⟩) (cRecvH hK hP) hAc hA hK hX hP hS rfl hl.1 rfl (Nat.le_of_ble_eq_true rfl) dX2_limitOf_14 ⟨Nat.le_of_ble_eq_true rfl, Nat.le_of_ble_eq_true rfl⟩ (fun E ce q9 H locs hN _ _ _ _ _ => absurd (cCrop_in (by omega) (by omega)) (xN_ne hN)) (fun h_3 H locs hP hS => ?_)
    refine lv_aload_n hx hb dX2_limitOf_17 rfl (lv_at hl 0 rfl) ?_
    refine k_gH (v := .int (iI (σ 0 4))) hx hb hts hown hF2 hK hP 4 (by decide) lf28 dX2_limitOf_18 rfl rfl ?_
    refine k_ci (As := [.int (iI (σ 0 4))]) (rest := []) ⟨hx, hb, hml, hown, hts⟩ (c_needUp l G ad cy hI σ ((σ (9 + i) 12).toNat) (by omega) (σ 0 4) (by omega)) (cwV 1 hts gX2_limitOf_X0_needUpTo rfl rfl rfl (by decide +kernel) ⟨Nat.le_of_ble_eq_true rfl, Nat.le_of_ble_eq_true rfl⟩) (cRecvC hK hP (by omega)) hAc hA hK hP hS rfl hl.1 rfl (Nat.le_of_ble_eq_true rfl) dX2_limitOf_21 ⟨Nat.le_of_ble_eq_true rfl, Nat.le_of_ble_eq_true rfl⟩ (fun H locs hP hS => ?_)
    refine lv_aload_n hx hb dX2_limitOf_24 rfl (lv_at hl 1 rfl) ?_
    refine k_gF (i := i) (v := .int (iI (σ (9 + i) 13))) hx hb hts hown hF1 hK hP hi 13 (by decide) lf85 dX2_limitOf_25 rfl rfl ?_
    refine k_imul hx hb dX2_limitOf_28 ?_
    have e0 : (0 : Nat) = 0 := rfl
    have eR : (fNeedUp σ ((σ (9 + i) 12).toNat) (σ 0 4)) * (σ (9 + i) 13) = fLimit σ i := by (unfold fLimit; first | (rw [if_pos c_1]) | (rw [if_neg c_1]))
    exact x_iret hx hb hr hlocks hK hP hS e0 eR dX2_limitOf_29 (Nat.le_of_ble_eq_true rfl) (Nat.le_of_ble_eq_true rfl)
  · rw [fPl_0] at c_1
    refine k_iconst hx hb dX2_limitOf_7 ?_
    have e0 : (0 : Nat) = 0 := rfl
    have eR : 0 = fLimit σ i := by (unfold fLimit; first | (rw [if_pos c_1]) | (rw [if_neg c_1]))
    exact x_iret hx hb hr hlocks hK hP hS e0 eR dX2_limitOf_8 (Nat.le_of_ble_eq_true rfl) (Nat.le_of_ble_eq_true rfl)
set_option maxHeartbeats 4000000 in
set_option maxRecDepth 100000 in
theorem h_draw (l : Launch) (hfl : l.stackTraces = false) (G : va_G) (ad : Nat → Nat) (cy : Nat → ClassId) (hI : cI ad) (σ : Sg) (hB : cBd σ) (n x : Int) (hn : nB n) (hx : nB x) : xMi l yX2_draw wsX2_draw ({ frames := 8, cells := 5, slots := 30, locals := 126 } : Room) G ad cy [.ref (ad 0), .int (iI n), .int (iI x)] σ (kDraw σ n x) ((fLimit σ n.toNat - σ (9 + n.toNat) 16) - x) (fDraw σ n.toNat x) 5 := by
  intro sz
  refine vx_ofW (cc := cX2_draw) (maxL := 5) (ret := (some .int)) (by decide) rfl ?_
  intro p e s m args below meth cd s₁ B hml hno hv
  obtain ⟨rfl, hsz, hP, hK, hX⟩ := hv
  have hx := B.exec
  have hb := B.bytes
  have hr := B.returns
  have hts := atoms_spec (ws := wsX2_draw) B.pre
  have hown : s.vm.findClass RX2 = some m.cls := findClass_of_methodNamed B.named
  have hlocks := B.notSynchronized
  subst hsz
  have hS : va_S (cA ad s.heap.size) s.heap s.heap [] := va_S.rf
  have hA : ∀ q, s.heap.size ≤ q → cA ad s.heap.size q := fun _ h => Or.inr h
  have hAc : ∀ j, j < 33 → cA ad s.heap.size (ad j) := fun j h => Or.inl ⟨j, h, rfl⟩
  have hl := lv_entry ([.ref (ad 0), .int (iI n), .int (iI x)]) (n := 5) (Nat.le_of_ble_eq_true rfl)
  rw [lg_entry_eq]
  generalize (lg_sl ([.ref (ad 0), .int (iI n), .int (iI x)]) ++ List.replicate (5 - (lg_sl ([.ref (ad 0), .int (iI n), .int (iI x)])).length) Slot.unset).toArray = ls at hl ⊢
  have hl : lv_has ls 5 [(0, .ref (ad 0)), (1, .int (iI n)), (2, .int (iI x))] := hl
  have hF1 : ∀ w ∈ wsX10, w ∈ wsX2_draw := by decide +kernel
  have hF2 : ∀ w ∈ wsX20, w ∈ wsX2_draw := by decide +kernel
  have lc95 := hts (.constant RX2 95 (100000000)) (by decide +kernel)
  have lf28 := hts (.fieldLink RX2 28 "HarvestLender" "stage" "I") (by decide +kernel)
  have lf100 := hts (.fieldLink RX2 100 "HarvestLender$Farmer" "drawn" "I") (by decide +kernel)
  have hcnt := hB.1.1
  have hstg := hB.1.2.2
  have hsea := hB.1.2.1
  refine lv_aload_n hx hb dX2_draw_0 rfl (lv_at hl 0 rfl) ?_
  refine lv_iload_n hx hb dX2_draw_1 rfl (lv_at hl 1 rfl) ?_
  refine k_xq (As := [.int (iI n)]) (rest := []) ⟨hx, hb, hml, hown, hts⟩ (x_farmerAt l hfl G ad cy hI σ hcnt n (by omega)) (cwV 1 hts gX2_draw_X2_farmerAt rfl rfl rfl (by decide +kernel) ⟨Nat.le_of_ble_eq_true rfl, Nat.le_of_ble_eq_true rfl⟩) (cRecvH hK hP) hAc hA hK hX hP hS rfl hl.1 rfl (Nat.le_of_ble_eq_true rfl) dX2_draw_2 ⟨Nat.le_of_ble_eq_true rfl, Nat.le_of_ble_eq_true rfl⟩ (fun E ce q9 H locs hN hP hS e1 e2 e3 => ?_) (fun h_1 H locs hP hS => ?_)
  · exact x_out hno hlocks hK hP hS e1 e2 e3 (by rw [(show kDraw σ n x = cFarm σ n by first | rfl | (simp [kDraw, cSeq, xN_ne hN]))]; exact hN) (Nat.le_of_ble_eq_true rfl) (Nat.le_of_ble_eq_true rfl)
  have zh_1 := cFarm_0 h_1
  obtain ⟨g0, g1, g2, g3, g5, g8, g9, g11, g12, g13, g14, g15, g16, gt⟩ := hB.2.2 n.toNat (by omega)
  have gl := fLimit_b hB (i := n.toNat) (by omega)
  refine lv_astore_n (lv' := [(3, .ref (ad (9 + n.toNat))), (0, .ref (ad 0)), (1, .int (iI n)), (2, .int (iI x))]) hx hb dX2_draw_5 rfl hl (by decide) rfl (fun ls hl => ?_)
  refine lv_iload_n hx hb dX2_draw_6 rfl (lv_at hl 3 rfl) ?_
  refine k_iconst hx hb dX2_draw_7 ?_
  refine k_ldc hx hb (100000000) hown lc95 (by decide) dX2_draw_8 ?_
  refine k_xsv (As := [.int (iI x), .int (iI 1), .int (iI 100000000)]) (rest := []) ⟨hx, hb, hml, hown, hts⟩ (x_range l hfl G ad cy hI σ x 1 100000000 (by omega) (by omega) (by omega)) (va_cwS 3 hts gX2_draw_X2_requireRange rfl rfl rfl (by decide +kernel) ⟨Nat.le_of_ble_eq_true rfl, Nat.le_of_ble_eq_true rfl⟩)  hAc hA hK hX hP hS rfl hl.1 rfl (Nat.le_of_ble_eq_true rfl) dX2_draw_10 ⟨Nat.le_of_ble_eq_true rfl, Nat.le_of_ble_eq_true rfl⟩ (fun E ce q9 H locs hN hP hS e1 e2 e3 => ?_) (fun h_2 H locs hP hS => ?_)
  · exact x_out hno hlocks hK hP hS e1 e2 e3 (by rw [(show kDraw σ n x = cRange x 1 100000000 by first | rfl | (simp [kDraw, cSeq, h_1, xN_ne hN]))]; exact hN) (Nat.le_of_ble_eq_true rfl) (Nat.le_of_ble_eq_true rfl)
  have zh_2 := cRange_0 h_2
  refine lv_aload_n hx hb dX2_draw_13 rfl (lv_at hl 1 rfl) ?_
  refine k_gH (v := .int (iI (σ 0 4))) hx hb hts hown hF2 hK hP 4 (by decide) lf28 dX2_draw_14 rfl rfl ?_
  refine k_iconst hx hb dX2_draw_17 ?_
  refine k_icmp_ge (tgt := 25) hx hb dX2_draw_18 (by decide) (by omega) (by decide) (fun c_3 => ?_) (fun c_3 => ?_)
  · refine k_iconst hx hb dX2_draw_25 ?_
    refine k_xsv (As := [.int (iI 0)]) (rest := []) ⟨hx, hb, hml, hown, hts⟩ (x_state l hfl G ad cy hI σ 0 (by omega)) (va_cwS 1 hts gX2_draw_X2_requireState rfl rfl rfl (by decide +kernel) ⟨Nat.le_of_ble_eq_true rfl, Nat.le_of_ble_eq_true rfl⟩)  hAc hA hK hX hP hS rfl hl.1 rfl (Nat.le_of_ble_eq_true rfl) dX2_draw_26 ⟨Nat.le_of_ble_eq_true rfl, Nat.le_of_ble_eq_true rfl⟩ (fun E ce q9 H locs hN hP hS e1 e2 e3 => ?_) (fun h9 => absurd h9 (by decide))
    exact x_out hno hlocks hK hP hS e1 e2 e3 (by rw [(show kDraw σ n x = 3 by (simp [kDraw, cSeq, h_1, h_2, c_3] <;> omega))]; exact hN) (Nat.le_of_ble_eq_true rfl) (Nat.le_of_ble_eq_true rfl)
  · refine k_iconst hx hb dX2_draw_21 ?_
    refine lv_goto (tgt := 26) hx hb dX2_draw_22 (by decide) ?_
    refine k_xsv (As := [.int (iI 1)]) (rest := []) ⟨hx, hb, hml, hown, hts⟩ (x_state l hfl G ad cy hI σ 1 (by omega)) (va_cwS 1 hts gX2_draw_X2_requireState rfl rfl rfl (by decide +kernel) ⟨Nat.le_of_ble_eq_true rfl, Nat.le_of_ble_eq_true rfl⟩)  hAc hA hK hX hP hS rfl hl.1 rfl (Nat.le_of_ble_eq_true rfl) dX2_draw_26 ⟨Nat.le_of_ble_eq_true rfl, Nat.le_of_ble_eq_true rfl⟩ (fun E ce q9 H locs hN _ _ _ _ _ => absurd rfl (xN_ne hN)) (fun _ H locs hP hS => ?_)
    refine lv_aload_n hx hb dX2_draw_29 rfl (lv_at hl 1 rfl) ?_
    refine lv_aload_n hx hb dX2_draw_30 rfl (lv_at hl 0 rfl) ?_
    refine k_xi (As := [.ref (ad (9 + n.toNat))]) (rest := []) ⟨hx, hb, hml, hown, hts⟩ (h_limitOf l hfl G ad cy hI σ hB n.toNat (by omega)) (cwV 1 hts gX2_draw_X2_limitOf rfl rfl rfl (by decide +kernel) ⟨Nat.le_of_ble_eq_true rfl, Nat.le_of_ble_eq_true rfl⟩) (cRecvH hK hP) hAc hA hK hX hP hS rfl hl.1 rfl (Nat.le_of_ble_eq_true rfl) dX2_draw_31 ⟨Nat.le_of_ble_eq_true rfl, Nat.le_of_ble_eq_true rfl⟩ (fun E ce q9 H locs hN _ _ _ _ _ => absurd rfl (xN_ne hN)) (fun _ H locs hP hS => ?_)
    refine lv_aload_n hx hb dX2_draw_34 rfl (lv_at hl 0 rfl) ?_
    refine k_gF (i := n.toNat) (v := .int (iI (σ (9 + n.toNat) 16))) hx hb hts hown hF1 hK hP (by omega) 16 (by decide) lf100 dX2_draw_35 rfl rfl ?_
    refine k_isub hx hb dX2_draw_38 ?_
    refine lv_istore (lv' := [(4, .int (iI ((fLimit σ n.toNat) - (σ (9 + n.toNat) 16)))), (3, .ref (ad (9 + n.toNat))), (0, .ref (ad 0)), (1, .int (iI n)), (2, .int (iI x))]) hx hb dX2_draw_39 hl (by decide) rfl (fun ls hl => ?_)
    refine lv_iload_n hx hb dX2_draw_41 rfl (lv_at hl 4 rfl) ?_
    refine lv_iload hx hb dX2_draw_42 (lv_at hl 0 rfl) ?_
    refine k_icmp_gt (tgt := 51) hx hb dX2_draw_44 (by decide) (by omega) (by omega) (fun c_7 => ?_) (fun c_7 => ?_)
    · refine k_iconst hx hb dX2_draw_51 ?_
      refine k_xsv (As := [.int (iI 0)]) (rest := []) ⟨hx, hb, hml, hown, hts⟩ (x_state l hfl G ad cy hI σ 0 (by omega)) (va_cwS 1 hts gX2_draw_X2_requireState rfl rfl rfl (by decide +kernel) ⟨Nat.le_of_ble_eq_true rfl, Nat.le_of_ble_eq_true rfl⟩)  hAc hA hK hX hP hS rfl hl.1 rfl (Nat.le_of_ble_eq_true rfl) dX2_draw_52 ⟨Nat.le_of_ble_eq_true rfl, Nat.le_of_ble_eq_true rfl⟩ (fun E ce q9 H locs hN hP hS e1 e2 e3 => ?_) (fun h9 => absurd h9 (by decide))
      exact x_out hno hlocks hK hP hS e1 e2 e3 (by rw [(show kDraw σ n x = 3 by (simp [kDraw, cSeq, h_1, h_2, c_3, c_7] <;> omega))]; exact hN) (Nat.le_of_ble_eq_true rfl) (Nat.le_of_ble_eq_true rfl)
    · refine k_iconst hx hb dX2_draw_47 ?_
      refine lv_goto (tgt := 52) hx hb dX2_draw_48 (by decide) ?_
      refine k_xsv (As := [.int (iI 1)]) (rest := []) ⟨hx, hb, hml, hown, hts⟩ (x_state l hfl G ad cy hI σ 1 (by omega)) (va_cwS 1 hts gX2_draw_X2_requireState rfl rfl rfl (by decide +kernel) ⟨Nat.le_of_ble_eq_true rfl, Nat.le_of_ble_eq_true rfl⟩)  hAc hA hK hX hP hS rfl hl.1 rfl (Nat.le_of_ble_eq_true rfl) dX2_draw_52 ⟨Nat.le_of_ble_eq_true rfl, Nat.le_of_ble_eq_true rfl⟩ (fun E ce q9 H locs hN _ _ _ _ _ => absurd rfl (xN_ne hN)) (fun _ H locs hP hS => ?_)
      refine lv_aload_n hx hb dX2_draw_55 rfl (lv_at hl 1 rfl) ?_
      refine lv_dup hx hb dX2_draw_56 rfl ?_
      refine k_gF (i := n.toNat) (v := .int (iI (σ (9 + n.toNat) 16))) hx hb hts hown hF1 hK hP (by omega) 16 (by decide) lf100 dX2_draw_57 rfl rfl ?_
      refine lv_iload_n hx hb dX2_draw_60 rfl (lv_at hl 4 rfl) ?_
      refine k_iadd hx hb dX2_draw_61 ?_
      refine k_pFi (i := n.toNat) (v := (σ (9 + n.toNat) 16) + x) hx hb hts hown hF1 hI hAc hK hP hS (by omega) 16 rfl (by decide) lf100 dX2_draw_62 rfl rfl (by decide +kernel) (fun H locs hP hS => ?_)
      refine lv_aload_n hx hb dX2_draw_65 rfl (lv_at hl 1 rfl) ?_
      refine lv_iload_n hx hb dX2_draw_66 rfl (lv_at hl 4 rfl) ?_
      refine k_i2l hx hb dX2_draw_67 (by omega) ?_
      refine k_cv (As := [.long (iL x)]) (rest := []) ⟨hx, hb, hml, hown, hts⟩ (c_charge l G ad cy hI (up σ (9 + n.toNat) 16 ((σ (9 + n.toNat) 16) + x)) n.toNat (by omega) x) (cwV 1 hts gX2_draw_X1_charge rfl rfl rfl (by decide +kernel) ⟨Nat.le_of_ble_eq_true rfl, Nat.le_of_ble_eq_true rfl⟩) (cRecvF hK hP (by omega)) hAc hA hK hP hS rfl hl.1 rfl (Nat.le_of_ble_eq_true rfl) dX2_draw_68 ⟨Nat.le_of_ble_eq_true rfl, Nat.le_of_ble_eq_true rfl⟩ (fun H locs hP hS => ?_)
      refine lv_iload hx hb dX2_draw_71 (lv_at hl 0 rfl) ?_
      refine lv_iload_n hx hb dX2_draw_73 rfl (lv_at hl 4 rfl) ?_
      refine k_isub hx hb dX2_draw_74 ?_
      have eF : fCharge (up σ (9 + n.toNat) 16 ((σ (9 + n.toNat) 16) + x)) n.toNat x = fDraw σ n.toNat x := by first | rfl | (simp only [fDraw, up_s]; done) | (simp only [fDraw, up_s]; repeat' split) <;> first | rfl | (exfalso; omega) | omega
      rw [eF] at hP
      have e0 : kDraw σ n x = 0 := by (simp [kDraw, cSeq, h_1, h_2, c_3, c_7] <;> omega)
      have eR : ((fLimit σ n.toNat) - (σ (9 + n.toNat) 16)) - x = (fLimit σ n.toNat - σ (9 + n.toNat) 16) - x := by first | rfl | (simp only [fDraw, up_s]; done) | (simp only [fDraw, up_s]; repeat' split) <;> first | rfl | (exfalso; omega) | omega
      exact x_iret hx hb hr hlocks hK hP hS e0 eR dX2_draw_75 (Nat.le_of_ble_eq_true rfl) (Nat.le_of_ble_eq_true rfl)
set_option maxHeartbeats 4000000 in
set_option maxRecDepth 100000 in
theorem h_pledge (l : Launch) (hfl : l.stackTraces = false) (G : va_G) (ad : Nat → Nat) (cy : Nat → ClassId) (hI : cI ad) (σ : Sg) (hB : cBd σ) (n u : Int) (hn : nB n) (hu : nB u) : xMi l yX2_pledge wsX2_pledge ({ frames := 7, cells := 4, slots := 24, locals := 106 } : Room) G ad cy [.ref (ad 0), .int (iI n), .int (iI u)] σ (kPledge σ n u) (u * σ (3 + (σ (9 + n.toNat) 11).toNat) 1 * 60 / 100) (fPledge σ n.toNat u (σ (3 + (σ (9 + n.toNat) 11).toNat) 1)) 4 := by
  intro sz
  refine vx_ofW (cc := cX2_pledge) (maxL := 4) (ret := (some .int)) (by decide) rfl ?_
  intro p e s m args below meth cd s₁ B hml hno hv
  obtain ⟨rfl, hsz, hP, hK, hX⟩ := hv
  have hx := B.exec
  have hb := B.bytes
  have hr := B.returns
  have hts := atoms_spec (ws := wsX2_pledge) B.pre
  have hown : s.vm.findClass RX2 = some m.cls := findClass_of_methodNamed B.named
  have hlocks := B.notSynchronized
  subst hsz
  have hS : va_S (cA ad s.heap.size) s.heap s.heap [] := va_S.rf
  have hA : ∀ q, s.heap.size ≤ q → cA ad s.heap.size q := fun _ h => Or.inr h
  have hAc : ∀ j, j < 33 → cA ad s.heap.size (ad j) := fun j h => Or.inl ⟨j, h, rfl⟩
  have hl := lv_entry ([.ref (ad 0), .int (iI n), .int (iI u)]) (n := 4) (Nat.le_of_ble_eq_true rfl)
  rw [lg_entry_eq]
  generalize (lg_sl ([.ref (ad 0), .int (iI n), .int (iI u)]) ++ List.replicate (4 - (lg_sl ([.ref (ad 0), .int (iI n), .int (iI u)])).length) Slot.unset).toArray = ls at hl ⊢
  have hl : lv_has ls 4 [(0, .ref (ad 0)), (1, .int (iI n)), (2, .int (iI u))] := hl
  have hF0 : ∀ w ∈ wsX00, w ∈ wsX2_pledge := by decide +kernel
  have hF1 : ∀ w ∈ wsX10, w ∈ wsX2_pledge := by decide +kernel
  have lc116 := hts (.constant RX2 116 (1000000)) (by decide +kernel)
  have lf79 := hts (.fieldLink RX2 79 "HarvestLender$Farmer" "grainCrop" "I") (by decide +kernel)
  have lf53 := hts (.fieldLink RX2 53 "HarvestLender$Crop" "price" "I") (by decide +kernel)
  have hcnt := hB.1.1
  have hstg := hB.1.2.2
  have hsea := hB.1.2.1
  refine lv_aload_n hx hb dX2_pledge_0 rfl (lv_at hl 0 rfl) ?_
  refine lv_iload_n hx hb dX2_pledge_1 rfl (lv_at hl 1 rfl) ?_
  refine k_xq (As := [.int (iI n)]) (rest := []) ⟨hx, hb, hml, hown, hts⟩ (x_farmerAt l hfl G ad cy hI σ hcnt n (by omega)) (cwV 1 hts gX2_pledge_X2_farmerAt rfl rfl rfl (by decide +kernel) ⟨Nat.le_of_ble_eq_true rfl, Nat.le_of_ble_eq_true rfl⟩) (cRecvH hK hP) hAc hA hK hX hP hS rfl hl.1 rfl (Nat.le_of_ble_eq_true rfl) dX2_pledge_2 ⟨Nat.le_of_ble_eq_true rfl, Nat.le_of_ble_eq_true rfl⟩ (fun E ce q9 H locs hN hP hS e1 e2 e3 => ?_) (fun h_1 H locs hP hS => ?_)
  · exact x_out hno hlocks hK hP hS e1 e2 e3 (by rw [(show kPledge σ n u = cFarm σ n by first | rfl | (simp [kPledge, cSeq, xN_ne hN]))]; exact hN) (Nat.le_of_ble_eq_true rfl) (Nat.le_of_ble_eq_true rfl)
  have zh_1 := cFarm_0 h_1
  obtain ⟨g0, g1, g2, g3, g5, g8, g9, g11, g12, g13, g14, g15, g16, gt⟩ := hB.2.2 n.toNat (by omega)
  have gl := fLimit_b hB (i := n.toNat) (by omega)
  refine lv_astore_n (lv' := [(3, .ref (ad (9 + n.toNat))), (0, .ref (ad 0)), (1, .int (iI n)), (2, .int (iI u))]) hx hb dX2_pledge_5 rfl hl (by decide) rfl (fun ls hl => ?_)
  refine lv_iload_n hx hb dX2_pledge_6 rfl (lv_at hl 3 rfl) ?_
  refine k_iconst hx hb dX2_pledge_7 ?_
  refine k_ldc hx hb (1000000) hown lc116 (by decide) dX2_pledge_8 ?_
  refine k_xsv (As := [.int (iI u), .int (iI 1), .int (iI 1000000)]) (rest := []) ⟨hx, hb, hml, hown, hts⟩ (x_range l hfl G ad cy hI σ u 1 1000000 (by omega) (by omega) (by omega)) (va_cwS 3 hts gX2_pledge_X2_requireRange rfl rfl rfl (by decide +kernel) ⟨Nat.le_of_ble_eq_true rfl, Nat.le_of_ble_eq_true rfl⟩)  hAc hA hK hX hP hS rfl hl.1 rfl (Nat.le_of_ble_eq_true rfl) dX2_pledge_10 ⟨Nat.le_of_ble_eq_true rfl, Nat.le_of_ble_eq_true rfl⟩ (fun E ce q9 H locs hN hP hS e1 e2 e3 => ?_) (fun h_2 H locs hP hS => ?_)
  · exact x_out hno hlocks hK hP hS e1 e2 e3 (by rw [(show kPledge σ n u = cRange u 1 1000000 by first | rfl | (simp [kPledge, cSeq, h_1, xN_ne hN]))]; exact hN) (Nat.le_of_ble_eq_true rfl) (Nat.le_of_ble_eq_true rfl)
  have zh_2 := cRange_0 h_2
  refine lv_iload_n hx hb dX2_pledge_13 rfl (lv_at hl 3 rfl) ?_
  refine lv_aload_n hx hb dX2_pledge_14 rfl (lv_at hl 0 rfl) ?_
  refine k_ci (As := []) (rest := [.int (iI u)]) ⟨hx, hb, hml, hown, hts⟩ (c_freeGrain l G ad cy hI σ n.toNat (by omega)) (cwV 0 hts gX2_pledge_X1_freeGrain rfl rfl rfl (by decide +kernel) ⟨Nat.le_of_ble_eq_true rfl, Nat.le_of_ble_eq_true rfl⟩) (cRecvF hK hP (by omega)) hAc hA hK hP hS rfl hl.1 rfl (Nat.le_of_ble_eq_true rfl) dX2_pledge_15 ⟨Nat.le_of_ble_eq_true rfl, Nat.le_of_ble_eq_true rfl⟩ (fun H locs hP hS => ?_)
  refine k_icmp_gt (tgt := 25) hx hb dX2_pledge_18 (by decide) (by omega) (by omega) (fun c_3 => ?_) (fun c_3 => ?_)
  · refine k_iconst hx hb dX2_pledge_25 ?_
    refine k_xsv (As := [.int (iI 0)]) (rest := []) ⟨hx, hb, hml, hown, hts⟩ (x_state l hfl G ad cy hI σ 0 (by omega)) (va_cwS 1 hts gX2_pledge_X2_requireState rfl rfl rfl (by decide +kernel) ⟨Nat.le_of_ble_eq_true rfl, Nat.le_of_ble_eq_true rfl⟩)  hAc hA hK hX hP hS rfl hl.1 rfl (Nat.le_of_ble_eq_true rfl) dX2_pledge_26 ⟨Nat.le_of_ble_eq_true rfl, Nat.le_of_ble_eq_true rfl⟩ (fun E ce q9 H locs hN hP hS e1 e2 e3 => ?_) (fun h9 => absurd h9 (by decide))
    exact x_out hno hlocks hK hP hS e1 e2 e3 (by rw [(show kPledge σ n u = 3 by (simp [kPledge, cSeq, h_1, h_2, c_3] <;> omega))]; exact hN) (Nat.le_of_ble_eq_true rfl) (Nat.le_of_ble_eq_true rfl)
  · refine k_iconst hx hb dX2_pledge_21 ?_
    refine lv_goto (tgt := 26) hx hb dX2_pledge_22 (by decide) ?_
    refine k_xsv (As := [.int (iI 1)]) (rest := []) ⟨hx, hb, hml, hown, hts⟩ (x_state l hfl G ad cy hI σ 1 (by omega)) (va_cwS 1 hts gX2_pledge_X2_requireState rfl rfl rfl (by decide +kernel) ⟨Nat.le_of_ble_eq_true rfl, Nat.le_of_ble_eq_true rfl⟩)  hAc hA hK hX hP hS rfl hl.1 rfl (Nat.le_of_ble_eq_true rfl) dX2_pledge_26 ⟨Nat.le_of_ble_eq_true rfl, Nat.le_of_ble_eq_true rfl⟩ (fun E ce q9 H locs hN _ _ _ _ _ => absurd rfl (xN_ne hN)) (fun _ H locs hP hS => ?_)
    refine lv_aload_n hx hb dX2_pledge_29 rfl (lv_at hl 0 rfl) ?_
    refine lv_iload_n hx hb dX2_pledge_30 rfl (lv_at hl 3 rfl) ?_
    refine lv_aload_n hx hb dX2_pledge_31 rfl (lv_at hl 1 rfl) ?_
    refine lv_aload_n hx hb dX2_pledge_32 rfl (lv_at hl 0 rfl) ?_
    refine k_gF (i := n.toNat) (v := .int (iI (σ (9 + n.toNat) 11))) hx hb hts hown hF1 hK hP (by omega) 11 (by decide) lf79 dX2_pledge_33 rfl rfl ?_
    refine k_xq (As := [.int (iI (σ (9 + n.toNat) 11))]) (rest := [.int (iI u), .ref (ad (9 + n.toNat))]) ⟨hx, hb, hml, hown, hts⟩ (x_cropAt l hfl G ad cy hI σ (σ (9 + n.toNat) 11) (by omega)) (cwV 1 hts gX2_pledge_X2_cropAt rfl rfl rfl (by decide +kernel) ⟨Nat.le_of_ble_eq_true rfl, Nat.le_of_ble_eq_true rfl⟩) (cRecvH hK hP) hAc hA hK hX hP hS rfl hl.1 rfl (Nat.le_of_ble_eq_true rfl) dX2_pledge_36 ⟨Nat.le_of_ble_eq_true rfl, Nat.le_of_ble_eq_true rfl⟩ (fun E ce q9 H locs hN _ _ _ _ _ => absurd (cCrop_in g11.1 g11.2) (xN_ne hN)) (fun h_7 H locs hP hS => ?_)
    obtain ⟨p1, p2, p3⟩ := hB.2.1 (σ (9 + n.toNat) 11).toNat (by omega)
    refine k_gC (i := (σ (9 + n.toNat) 11).toNat) (v := .int (iI (σ (3 + ((σ (9 + n.toNat) 11).toNat)) 1))) hx hb hts hown hF0 hK hP (by omega) 1 (by decide) lf53 dX2_pledge_39 rfl rfl ?_
    refine k_cl (As := [.int (iI u), .int (iI (σ (3 + ((σ (9 + n.toNat) 11).toNat)) 1))]) (rest := []) ⟨hx, hb, hml, hown, hts⟩ (c_pledgeU l G ad cy hI σ n.toNat (by omega) u (σ (3 + ((σ (9 + n.toNat) 11).toNat)) 1) (by omega) (by omega) (by omega)) (cwV 2 hts gX2_pledge_X1_pledgeUnits rfl rfl rfl (by decide +kernel) ⟨Nat.le_of_ble_eq_true rfl, Nat.le_of_ble_eq_true rfl⟩) (cRecvF hK hP (by omega)) hAc hA hK hP hS rfl hl.1 rfl (Nat.le_of_ble_eq_true rfl) dX2_pledge_42 ⟨Nat.le_of_ble_eq_true rfl, Nat.le_of_ble_eq_true rfl⟩ (fun H locs hP hS => ?_)
    refine k_l2i hx hb dX2_pledge_45 ?_
    have eF : fPledge σ n.toNat u (σ (3 + ((σ (9 + n.toNat) 11).toNat)) 1) = fPledge σ n.toNat u (σ (3 + (σ (9 + n.toNat) 11).toNat) 1) := by first | rfl | (simp only [up_s]; done) | (simp only [up_s]; repeat' split) <;> first | rfl | (exfalso; omega) | omega
    rw [eF] at hP
    have e0 : kPledge σ n u = 0 := by (simp [kPledge, cSeq, h_1, h_2, c_3] <;> omega)
    have eR : u * (σ (3 + ((σ (9 + n.toNat) 11).toNat)) 1) * 60 / 100 = u * σ (3 + (σ (9 + n.toNat) 11).toNat) 1 * 60 / 100 := by first | rfl | (simp only [up_s]; done) | (simp only [up_s]; repeat' split) <;> first | rfl | (exfalso; omega) | omega
    exact x_iret hx hb hr hlocks hK hP hS e0 eR dX2_pledge_46 (Nat.le_of_ble_eq_true rfl) (Nat.le_of_ble_eq_true rfl)
set_option maxHeartbeats 4000000 in
set_option maxRecDepth 100000 in
theorem h_sell (l : Launch) (hfl : l.stackTraces = false) (G : va_G) (ad : Nat → Nat) (cy : Nat → ClassId) (hI : cI ad) (σ : Sg) (hB : cBd σ) (n u : Int) (hn : nB n) (hu : nB u) : xMi l yX2_sell wsX2_sell ({ frames := 7, cells := 4, slots := 24, locals := 106 } : Room) G ad cy [.ref (ad 0), .int (iI n), .int (iI u)] σ (kSell σ n u) (u * σ (3 + (σ (9 + n.toNat) 11).toNat) 1) (fSell σ n.toNat u (σ (3 + (σ (9 + n.toNat) 11).toNat) 1)) 4 := by
  intro sz
  refine vx_ofW (cc := cX2_sell) (maxL := 4) (ret := (some .int)) (by decide) rfl ?_
  intro p e s m args below meth cd s₁ B hml hno hv
  obtain ⟨rfl, hsz, hP, hK, hX⟩ := hv
  have hx := B.exec
  have hb := B.bytes
  have hr := B.returns
  have hts := atoms_spec (ws := wsX2_sell) B.pre
  have hown : s.vm.findClass RX2 = some m.cls := findClass_of_methodNamed B.named
  have hlocks := B.notSynchronized
  subst hsz
  have hS : va_S (cA ad s.heap.size) s.heap s.heap [] := va_S.rf
  have hA : ∀ q, s.heap.size ≤ q → cA ad s.heap.size q := fun _ h => Or.inr h
  have hAc : ∀ j, j < 33 → cA ad s.heap.size (ad j) := fun j h => Or.inl ⟨j, h, rfl⟩
  have hl := lv_entry ([.ref (ad 0), .int (iI n), .int (iI u)]) (n := 4) (Nat.le_of_ble_eq_true rfl)
  rw [lg_entry_eq]
  generalize (lg_sl ([.ref (ad 0), .int (iI n), .int (iI u)]) ++ List.replicate (4 - (lg_sl ([.ref (ad 0), .int (iI n), .int (iI u)])).length) Slot.unset).toArray = ls at hl ⊢
  have hl : lv_has ls 4 [(0, .ref (ad 0)), (1, .int (iI n)), (2, .int (iI u))] := hl
  have hF0 : ∀ w ∈ wsX00, w ∈ wsX2_sell := by decide +kernel
  have hF1 : ∀ w ∈ wsX10, w ∈ wsX2_sell := by decide +kernel
  have lc116 := hts (.constant RX2 116 (1000000)) (by decide +kernel)
  have lf76 := hts (.fieldLink RX2 76 "HarvestLender$Farmer" "grain" "I") (by decide +kernel)
  have lf79 := hts (.fieldLink RX2 79 "HarvestLender$Farmer" "grainCrop" "I") (by decide +kernel)
  have lf53 := hts (.fieldLink RX2 53 "HarvestLender$Crop" "price" "I") (by decide +kernel)
  have hcnt := hB.1.1
  have hstg := hB.1.2.2
  have hsea := hB.1.2.1
  refine lv_aload_n hx hb dX2_sell_0 rfl (lv_at hl 0 rfl) ?_
  refine lv_iload_n hx hb dX2_sell_1 rfl (lv_at hl 1 rfl) ?_
  refine k_xq (As := [.int (iI n)]) (rest := []) ⟨hx, hb, hml, hown, hts⟩ (x_farmerAt l hfl G ad cy hI σ hcnt n (by omega)) (cwV 1 hts gX2_sell_X2_farmerAt rfl rfl rfl (by decide +kernel) ⟨Nat.le_of_ble_eq_true rfl, Nat.le_of_ble_eq_true rfl⟩) (cRecvH hK hP) hAc hA hK hX hP hS rfl hl.1 rfl (Nat.le_of_ble_eq_true rfl) dX2_sell_2 ⟨Nat.le_of_ble_eq_true rfl, Nat.le_of_ble_eq_true rfl⟩ (fun E ce q9 H locs hN hP hS e1 e2 e3 => ?_) (fun h_1 H locs hP hS => ?_)
  · exact x_out hno hlocks hK hP hS e1 e2 e3 (by rw [(show kSell σ n u = cFarm σ n by first | rfl | (simp [kSell, cSeq, xN_ne hN]))]; exact hN) (Nat.le_of_ble_eq_true rfl) (Nat.le_of_ble_eq_true rfl)
  have zh_1 := cFarm_0 h_1
  obtain ⟨g0, g1, g2, g3, g5, g8, g9, g11, g12, g13, g14, g15, g16, gt⟩ := hB.2.2 n.toNat (by omega)
  have gl := fLimit_b hB (i := n.toNat) (by omega)
  refine lv_astore_n (lv' := [(3, .ref (ad (9 + n.toNat))), (0, .ref (ad 0)), (1, .int (iI n)), (2, .int (iI u))]) hx hb dX2_sell_5 rfl hl (by decide) rfl (fun ls hl => ?_)
  refine lv_iload_n hx hb dX2_sell_6 rfl (lv_at hl 3 rfl) ?_
  refine k_iconst hx hb dX2_sell_7 ?_
  refine k_ldc hx hb (1000000) hown lc116 (by decide) dX2_sell_8 ?_
  refine k_xsv (As := [.int (iI u), .int (iI 1), .int (iI 1000000)]) (rest := []) ⟨hx, hb, hml, hown, hts⟩ (x_range l hfl G ad cy hI σ u 1 1000000 (by omega) (by omega) (by omega)) (va_cwS 3 hts gX2_sell_X2_requireRange rfl rfl rfl (by decide +kernel) ⟨Nat.le_of_ble_eq_true rfl, Nat.le_of_ble_eq_true rfl⟩)  hAc hA hK hX hP hS rfl hl.1 rfl (Nat.le_of_ble_eq_true rfl) dX2_sell_10 ⟨Nat.le_of_ble_eq_true rfl, Nat.le_of_ble_eq_true rfl⟩ (fun E ce q9 H locs hN hP hS e1 e2 e3 => ?_) (fun h_2 H locs hP hS => ?_)
  · exact x_out hno hlocks hK hP hS e1 e2 e3 (by rw [(show kSell σ n u = cRange u 1 1000000 by first | rfl | (simp [kSell, cSeq, h_1, xN_ne hN]))]; exact hN) (Nat.le_of_ble_eq_true rfl) (Nat.le_of_ble_eq_true rfl)
  have zh_2 := cRange_0 h_2
  refine lv_iload_n hx hb dX2_sell_13 rfl (lv_at hl 3 rfl) ?_
  refine lv_aload_n hx hb dX2_sell_14 rfl (lv_at hl 0 rfl) ?_
  refine k_gF (i := n.toNat) (v := .int (iI (σ (9 + n.toNat) 9))) hx hb hts hown hF1 hK hP (by omega) 9 (by decide) lf76 dX2_sell_15 rfl rfl ?_
  refine k_icmp_gt (tgt := 25) hx hb dX2_sell_18 (by decide) (by omega) (by omega) (fun c_3 => ?_) (fun c_3 => ?_)
  · refine k_iconst hx hb dX2_sell_25 ?_
    refine k_xsv (As := [.int (iI 0)]) (rest := []) ⟨hx, hb, hml, hown, hts⟩ (x_state l hfl G ad cy hI σ 0 (by omega)) (va_cwS 1 hts gX2_sell_X2_requireState rfl rfl rfl (by decide +kernel) ⟨Nat.le_of_ble_eq_true rfl, Nat.le_of_ble_eq_true rfl⟩)  hAc hA hK hX hP hS rfl hl.1 rfl (Nat.le_of_ble_eq_true rfl) dX2_sell_26 ⟨Nat.le_of_ble_eq_true rfl, Nat.le_of_ble_eq_true rfl⟩ (fun E ce q9 H locs hN hP hS e1 e2 e3 => ?_) (fun h9 => absurd h9 (by decide))
    exact x_out hno hlocks hK hP hS e1 e2 e3 (by rw [(show kSell σ n u = 3 by (simp [kSell, cSeq, h_1, h_2, c_3] <;> omega))]; exact hN) (Nat.le_of_ble_eq_true rfl) (Nat.le_of_ble_eq_true rfl)
  · refine k_iconst hx hb dX2_sell_21 ?_
    refine lv_goto (tgt := 26) hx hb dX2_sell_22 (by decide) ?_
    refine k_xsv (As := [.int (iI 1)]) (rest := []) ⟨hx, hb, hml, hown, hts⟩ (x_state l hfl G ad cy hI σ 1 (by omega)) (va_cwS 1 hts gX2_sell_X2_requireState rfl rfl rfl (by decide +kernel) ⟨Nat.le_of_ble_eq_true rfl, Nat.le_of_ble_eq_true rfl⟩)  hAc hA hK hX hP hS rfl hl.1 rfl (Nat.le_of_ble_eq_true rfl) dX2_sell_26 ⟨Nat.le_of_ble_eq_true rfl, Nat.le_of_ble_eq_true rfl⟩ (fun E ce q9 H locs hN _ _ _ _ _ => absurd rfl (xN_ne hN)) (fun _ H locs hP hS => ?_)
    refine lv_aload_n hx hb dX2_sell_29 rfl (lv_at hl 0 rfl) ?_
    refine lv_iload_n hx hb dX2_sell_30 rfl (lv_at hl 3 rfl) ?_
    refine lv_aload_n hx hb dX2_sell_31 rfl (lv_at hl 1 rfl) ?_
    refine lv_aload_n hx hb dX2_sell_32 rfl (lv_at hl 0 rfl) ?_
    refine k_gF (i := n.toNat) (v := .int (iI (σ (9 + n.toNat) 11))) hx hb hts hown hF1 hK hP (by omega) 11 (by decide) lf79 dX2_sell_33 rfl rfl ?_
    refine k_xq (As := [.int (iI (σ (9 + n.toNat) 11))]) (rest := [.int (iI u), .ref (ad (9 + n.toNat))]) ⟨hx, hb, hml, hown, hts⟩ (x_cropAt l hfl G ad cy hI σ (σ (9 + n.toNat) 11) (by omega)) (cwV 1 hts gX2_sell_X2_cropAt rfl rfl rfl (by decide +kernel) ⟨Nat.le_of_ble_eq_true rfl, Nat.le_of_ble_eq_true rfl⟩) (cRecvH hK hP) hAc hA hK hX hP hS rfl hl.1 rfl (Nat.le_of_ble_eq_true rfl) dX2_sell_36 ⟨Nat.le_of_ble_eq_true rfl, Nat.le_of_ble_eq_true rfl⟩ (fun E ce q9 H locs hN _ _ _ _ _ => absurd (cCrop_in g11.1 g11.2) (xN_ne hN)) (fun h_7 H locs hP hS => ?_)
    obtain ⟨p1, p2, p3⟩ := hB.2.1 (σ (9 + n.toNat) 11).toNat (by omega)
    refine k_gC (i := (σ (9 + n.toNat) 11).toNat) (v := .int (iI (σ (3 + ((σ (9 + n.toNat) 11).toNat)) 1))) hx hb hts hown hF0 hK hP (by omega) 1 (by decide) lf53 dX2_sell_39 rfl rfl ?_
    refine k_cl (As := [.int (iI u), .int (iI (σ (3 + ((σ (9 + n.toNat) 11).toNat)) 1))]) (rest := []) ⟨hx, hb, hml, hown, hts⟩ (c_sellU l G ad cy hI σ n.toNat (by omega) u (σ (3 + ((σ (9 + n.toNat) 11).toNat)) 1) (by omega) (by omega) (by omega) (by omega) (by omega)) (cwV 2 hts gX2_sell_X1_sellUnits rfl rfl rfl (by decide +kernel) ⟨Nat.le_of_ble_eq_true rfl, Nat.le_of_ble_eq_true rfl⟩) (cRecvF hK hP (by omega)) hAc hA hK hP hS rfl hl.1 rfl (Nat.le_of_ble_eq_true rfl) dX2_sell_42 ⟨Nat.le_of_ble_eq_true rfl, Nat.le_of_ble_eq_true rfl⟩ (fun H locs hP hS => ?_)
    refine k_l2i hx hb dX2_sell_45 ?_
    have eF : fSell σ n.toNat u (σ (3 + ((σ (9 + n.toNat) 11).toNat)) 1) = fSell σ n.toNat u (σ (3 + (σ (9 + n.toNat) 11).toNat) 1) := by first | rfl | (simp only [up_s]; done) | (simp only [up_s]; repeat' split) <;> first | rfl | (exfalso; omega) | omega
    rw [eF] at hP
    have e0 : kSell σ n u = 0 := by (simp [kSell, cSeq, h_1, h_2, c_3] <;> omega)
    have eR : u * (σ (3 + ((σ (9 + n.toNat) 11).toNat)) 1) = u * σ (3 + (σ (9 + n.toNat) 11).toNat) 1 := by first | rfl | (simp only [up_s]; done) | (simp only [up_s]; repeat' split) <;> first | rfl | (exfalso; omega) | omega
    exact x_iret hx hb hr hlocks hK hP hS e0 eR dX2_sell_46 (Nat.le_of_ble_eq_true rfl) (Nat.le_of_ble_eq_true rfl)
set_option maxHeartbeats 4000000 in
set_option maxRecDepth 100000 in
theorem h_repay (l : Launch) (hfl : l.stackTraces = false) (G : va_G) (ad : Nat → Nat) (cy : Nat → ClassId) (hI : cI ad) (σ : Sg) (hB : cBd σ) (n x : Int) (hn : nB n) (hx : nB x) : xMi l yX2_repay wsX2_repay ({ frames := 7, cells := 3, slots := 18, locals := 106 } : Room) G ad cy [.ref (ad 0), .int (iI n), .int (iI x)] σ (kRepay σ n x) (σ (9 + n.toNat) 2 - x) (fRepay σ n.toNat x) 3 := by
  intro sz
  refine vx_ofW (cc := cX2_repay) (maxL := 4) (ret := (some .int)) (by decide) rfl ?_
  intro p e s m args below meth cd s₁ B hml hno hv
  obtain ⟨rfl, hsz, hP, hK, hX⟩ := hv
  have hx := B.exec
  have hb := B.bytes
  have hr := B.returns
  have hts := atoms_spec (ws := wsX2_repay) B.pre
  have hown : s.vm.findClass RX2 = some m.cls := findClass_of_methodNamed B.named
  have hlocks := B.notSynchronized
  subst hsz
  have hS : va_S (cA ad s.heap.size) s.heap s.heap [] := va_S.rf
  have hA : ∀ q, s.heap.size ≤ q → cA ad s.heap.size q := fun _ h => Or.inr h
  have hAc : ∀ j, j < 33 → cA ad s.heap.size (ad j) := fun j h => Or.inl ⟨j, h, rfl⟩
  have hl := lv_entry ([.ref (ad 0), .int (iI n), .int (iI x)]) (n := 4) (Nat.le_of_ble_eq_true rfl)
  rw [lg_entry_eq]
  generalize (lg_sl ([.ref (ad 0), .int (iI n), .int (iI x)]) ++ List.replicate (4 - (lg_sl ([.ref (ad 0), .int (iI n), .int (iI x)])).length) Slot.unset).toArray = ls at hl ⊢
  have hl : lv_has ls 4 [(0, .ref (ad 0)), (1, .int (iI n)), (2, .int (iI x))] := hl
  have hF1 : ∀ w ∈ wsX10, w ∈ wsX2_repay := by decide +kernel
  have lc95 := hts (.constant RX2 95 (100000000)) (by decide +kernel)
  have lf128 := hts (.fieldLink RX2 128 "HarvestLender$Farmer" "debt" "J") (by decide +kernel)
  have lf132 := hts (.fieldLink RX2 132 "HarvestLender$Farmer" "purse" "J") (by decide +kernel)
  have hcnt := hB.1.1
  have hstg := hB.1.2.2
  have hsea := hB.1.2.1
  refine lv_aload_n hx hb dX2_repay_0 rfl (lv_at hl 0 rfl) ?_
  refine lv_iload_n hx hb dX2_repay_1 rfl (lv_at hl 1 rfl) ?_
  refine k_xq (As := [.int (iI n)]) (rest := []) ⟨hx, hb, hml, hown, hts⟩ (x_farmerAt l hfl G ad cy hI σ hcnt n (by omega)) (cwV 1 hts gX2_repay_X2_farmerAt rfl rfl rfl (by decide +kernel) ⟨Nat.le_of_ble_eq_true rfl, Nat.le_of_ble_eq_true rfl⟩) (cRecvH hK hP) hAc hA hK hX hP hS rfl hl.1 rfl (Nat.le_of_ble_eq_true rfl) dX2_repay_2 ⟨Nat.le_of_ble_eq_true rfl, Nat.le_of_ble_eq_true rfl⟩ (fun E ce q9 H locs hN hP hS e1 e2 e3 => ?_) (fun h_1 H locs hP hS => ?_)
  · exact x_out hno hlocks hK hP hS e1 e2 e3 (by rw [(show kRepay σ n x = cFarm σ n by first | rfl | (simp [kRepay, cSeq, xN_ne hN]))]; exact hN) (Nat.le_of_ble_eq_true rfl) (Nat.le_of_ble_eq_true rfl)
  have zh_1 := cFarm_0 h_1
  obtain ⟨g0, g1, g2, g3, g5, g8, g9, g11, g12, g13, g14, g15, g16, gt⟩ := hB.2.2 n.toNat (by omega)
  have gl := fLimit_b hB (i := n.toNat) (by omega)
  refine lv_astore_n (lv' := [(3, .ref (ad (9 + n.toNat))), (0, .ref (ad 0)), (1, .int (iI n)), (2, .int (iI x))]) hx hb dX2_repay_5 rfl hl (by decide) rfl (fun ls hl => ?_)
  refine lv_iload_n hx hb dX2_repay_6 rfl (lv_at hl 3 rfl) ?_
  refine k_iconst hx hb dX2_repay_7 ?_
  refine k_ldc hx hb (100000000) hown lc95 (by decide) dX2_repay_8 ?_
  refine k_xsv (As := [.int (iI x), .int (iI 1), .int (iI 100000000)]) (rest := []) ⟨hx, hb, hml, hown, hts⟩ (x_range l hfl G ad cy hI σ x 1 100000000 (by omega) (by omega) (by omega)) (va_cwS 3 hts gX2_repay_X2_requireRange rfl rfl rfl (by decide +kernel) ⟨Nat.le_of_ble_eq_true rfl, Nat.le_of_ble_eq_true rfl⟩)  hAc hA hK hX hP hS rfl hl.1 rfl (Nat.le_of_ble_eq_true rfl) dX2_repay_10 ⟨Nat.le_of_ble_eq_true rfl, Nat.le_of_ble_eq_true rfl⟩ (fun E ce q9 H locs hN hP hS e1 e2 e3 => ?_) (fun h_2 H locs hP hS => ?_)
  · exact x_out hno hlocks hK hP hS e1 e2 e3 (by rw [(show kRepay σ n x = cRange x 1 100000000 by first | rfl | (simp [kRepay, cSeq, h_1, xN_ne hN]))]; exact hN) (Nat.le_of_ble_eq_true rfl) (Nat.le_of_ble_eq_true rfl)
  have zh_2 := cRange_0 h_2
  refine lv_iload_n hx hb dX2_repay_13 rfl (lv_at hl 3 rfl) ?_
  refine k_i2l hx hb dX2_repay_14 (by omega) ?_
  refine lv_aload_n hx hb dX2_repay_15 rfl (lv_at hl 0 rfl) ?_
  refine k_gF (i := n.toNat) (v := .long (iL (σ (9 + n.toNat) 2))) hx hb hts hown hF1 hK hP (by omega) 2 (by decide) lf128 dX2_repay_16 rfl rfl ?_
  refine k_lcmp_gt (tgt := 37) hx hb dX2_repay_19 dX2_repay_20 (by decide) (by omega) (by omega) (fun c_3 => ?_) (fun c_3 => ?_)
  · refine k_iconst hx hb dX2_repay_37 ?_
    refine k_xsv (As := [.int (iI 0)]) (rest := []) ⟨hx, hb, hml, hown, hts⟩ (x_state l hfl G ad cy hI σ 0 (by omega)) (va_cwS 1 hts gX2_repay_X2_requireState rfl rfl rfl (by decide +kernel) ⟨Nat.le_of_ble_eq_true rfl, Nat.le_of_ble_eq_true rfl⟩)  hAc hA hK hX hP hS rfl hl.1 rfl (Nat.le_of_ble_eq_true rfl) dX2_repay_38 ⟨Nat.le_of_ble_eq_true rfl, Nat.le_of_ble_eq_true rfl⟩ (fun E ce q9 H locs hN hP hS e1 e2 e3 => ?_) (fun h9 => absurd h9 (by decide))
    exact x_out hno hlocks hK hP hS e1 e2 e3 (by rw [(show kRepay σ n x = 3 by (simp [kRepay, cSeq, h_1, h_2, c_3] <;> omega))]; exact hN) (Nat.le_of_ble_eq_true rfl) (Nat.le_of_ble_eq_true rfl)
  · refine lv_iload_n hx hb dX2_repay_23 rfl (lv_at hl 3 rfl) ?_
    refine k_i2l hx hb dX2_repay_24 (by omega) ?_
    refine lv_aload_n hx hb dX2_repay_25 rfl (lv_at hl 0 rfl) ?_
    refine k_gF (i := n.toNat) (v := .long (iL (σ (9 + n.toNat) 1))) hx hb hts hown hF1 hK hP (by omega) 1 (by decide) lf132 dX2_repay_26 rfl rfl ?_
    refine k_lcmp_gt (tgt := 37) hx hb dX2_repay_29 dX2_repay_30 (by decide) (by omega) (by omega) (fun c_5 => ?_) (fun c_5 => ?_)
    · refine k_iconst hx hb dX2_repay_37 ?_
      refine k_xsv (As := [.int (iI 0)]) (rest := []) ⟨hx, hb, hml, hown, hts⟩ (x_state l hfl G ad cy hI σ 0 (by omega)) (va_cwS 1 hts gX2_repay_X2_requireState rfl rfl rfl (by decide +kernel) ⟨Nat.le_of_ble_eq_true rfl, Nat.le_of_ble_eq_true rfl⟩)  hAc hA hK hX hP hS rfl hl.1 rfl (Nat.le_of_ble_eq_true rfl) dX2_repay_38 ⟨Nat.le_of_ble_eq_true rfl, Nat.le_of_ble_eq_true rfl⟩ (fun E ce q9 H locs hN hP hS e1 e2 e3 => ?_) (fun h9 => absurd h9 (by decide))
      exact x_out hno hlocks hK hP hS e1 e2 e3 (by rw [(show kRepay σ n x = 3 by (simp [kRepay, cSeq, h_1, h_2, c_3, c_5] <;> omega))]; exact hN) (Nat.le_of_ble_eq_true rfl) (Nat.le_of_ble_eq_true rfl)
    · refine k_iconst hx hb dX2_repay_33 ?_
      refine lv_goto (tgt := 38) hx hb dX2_repay_34 (by decide) ?_
      refine k_xsv (As := [.int (iI 1)]) (rest := []) ⟨hx, hb, hml, hown, hts⟩ (x_state l hfl G ad cy hI σ 1 (by omega)) (va_cwS 1 hts gX2_repay_X2_requireState rfl rfl rfl (by decide +kernel) ⟨Nat.le_of_ble_eq_true rfl, Nat.le_of_ble_eq_true rfl⟩)  hAc hA hK hX hP hS rfl hl.1 rfl (Nat.le_of_ble_eq_true rfl) dX2_repay_38 ⟨Nat.le_of_ble_eq_true rfl, Nat.le_of_ble_eq_true rfl⟩ (fun E ce q9 H locs hN _ _ _ _ _ => absurd rfl (xN_ne hN)) (fun _ H locs hP hS => ?_)
      refine lv_aload_n hx hb dX2_repay_41 rfl (lv_at hl 0 rfl) ?_
      refine lv_iload_n hx hb dX2_repay_42 rfl (lv_at hl 3 rfl) ?_
      refine k_i2l hx hb dX2_repay_43 (by omega) ?_
      refine k_cv (As := [.long (iL x)]) (rest := []) ⟨hx, hb, hml, hown, hts⟩ (c_repay l G ad cy hI σ n.toNat (by omega) x) (cwV 1 hts gX2_repay_X1_repayFromPurse rfl rfl rfl (by decide +kernel) ⟨Nat.le_of_ble_eq_true rfl, Nat.le_of_ble_eq_true rfl⟩) (cRecvF hK hP (by omega)) hAc hA hK hP hS rfl hl.1 rfl (Nat.le_of_ble_eq_true rfl) dX2_repay_44 ⟨Nat.le_of_ble_eq_true rfl, Nat.le_of_ble_eq_true rfl⟩ (fun H locs hP hS => ?_)
      refine lv_aload_n hx hb dX2_repay_47 rfl (lv_at hl 0 rfl) ?_
      refine k_gF (i := n.toNat) (v := .long (iL ((fRepay σ n.toNat x) (9 + n.toNat) 2))) hx hb hts hown hF1 hK hP (by omega) 2 (by decide) lf128 dX2_repay_48 rfl rfl ?_
      refine k_l2i hx hb dX2_repay_51 ?_
      have e0 : kRepay σ n x = 0 := by (simp [kRepay, cSeq, h_1, h_2, c_3, c_5] <;> omega)
      have eR : (fRepay σ n.toNat x) (9 + n.toNat) 2 = σ (9 + n.toNat) 2 - x := by (simp [fRepay, fLower, up])
      exact x_iret hx hb hr hlocks hK hP hS e0 eR dX2_repay_52 (Nat.le_of_ble_eq_true rfl) (Nat.le_of_ble_eq_true rfl)
set_option maxHeartbeats 4000000 in
set_option maxRecDepth 100000 in
theorem h_limit (l : Launch) (hfl : l.stackTraces = false) (G : va_G) (ad : Nat → Nat) (cy : Nat → ClassId) (hI : cI ad) (σ : Sg) (hB : cBd σ) (n : Int) (hn : nB n) : xMi l yX2_limit wsX2_limit ({ frames := 8, cells := 2, slots := 12, locals := 126 } : Room) G ad cy [.ref (ad 0), .int (iI n)] σ (cFarm σ n) (fLimit σ n.toNat) σ 2 := by
  intro sz
  refine vx_ofW (cc := cX2_limit) (maxL := 2) (ret := (some .int)) (by decide) rfl ?_
  intro p e s m args below meth cd s₁ B hml hno hv
  obtain ⟨rfl, hsz, hP, hK, hX⟩ := hv
  have hx := B.exec
  have hb := B.bytes
  have hr := B.returns
  have hts := atoms_spec (ws := wsX2_limit) B.pre
  have hown : s.vm.findClass RX2 = some m.cls := findClass_of_methodNamed B.named
  have hlocks := B.notSynchronized
  subst hsz
  have hS : va_S (cA ad s.heap.size) s.heap s.heap [] := va_S.rf
  have hA : ∀ q, s.heap.size ≤ q → cA ad s.heap.size q := fun _ h => Or.inr h
  have hAc : ∀ j, j < 33 → cA ad s.heap.size (ad j) := fun j h => Or.inl ⟨j, h, rfl⟩
  have hl := lv_entry ([.ref (ad 0), .int (iI n)]) (n := 2) (Nat.le_of_ble_eq_true rfl)
  rw [lg_entry_eq]
  generalize (lg_sl ([.ref (ad 0), .int (iI n)]) ++ List.replicate (2 - (lg_sl ([.ref (ad 0), .int (iI n)])).length) Slot.unset).toArray = ls at hl ⊢
  have hl : lv_has ls 2 [(0, .ref (ad 0)), (1, .int (iI n))] := hl
  have hcnt := hB.1.1
  have hstg := hB.1.2.2
  have hsea := hB.1.2.1
  refine lv_aload_n hx hb dX2_limit_0 rfl (lv_at hl 0 rfl) ?_
  refine lv_aload_n hx hb dX2_limit_1 rfl (lv_at hl 0 rfl) ?_
  refine lv_iload_n hx hb dX2_limit_2 rfl (lv_at hl 1 rfl) ?_
  refine k_xq (As := [.int (iI n)]) (rest := [.ref (ad 0)]) ⟨hx, hb, hml, hown, hts⟩ (x_farmerAt l hfl G ad cy hI σ hcnt n (by omega)) (cwV 1 hts gX2_limit_X2_farmerAt rfl rfl rfl (by decide +kernel) ⟨Nat.le_of_ble_eq_true rfl, Nat.le_of_ble_eq_true rfl⟩) (cRecvH hK hP) hAc hA hK hX hP hS rfl hl.1 rfl (Nat.le_of_ble_eq_true rfl) dX2_limit_3 ⟨Nat.le_of_ble_eq_true rfl, Nat.le_of_ble_eq_true rfl⟩ (fun E ce q9 H locs hN hP hS e1 e2 e3 => ?_) (fun h_1 H locs hP hS => ?_)
  · exact x_out hno hlocks hK hP hS e1 e2 e3 (by rw [(show cFarm σ n = cFarm σ n by first | rfl | (simp [cSeq, cSeq, xN_ne hN]))]; exact hN) (Nat.le_of_ble_eq_true rfl) (Nat.le_of_ble_eq_true rfl)
  have zh_1 := cFarm_0 h_1
  obtain ⟨g0, g1, g2, g3, g5, g8, g9, g11, g12, g13, g14, g15, g16, gt⟩ := hB.2.2 n.toNat (by omega)
  have gl := fLimit_b hB (i := n.toNat) (by omega)
  refine k_xi (As := [.ref (ad (9 + n.toNat))]) (rest := []) ⟨hx, hb, hml, hown, hts⟩ (h_limitOf l hfl G ad cy hI σ hB n.toNat (by omega)) (cwV 1 hts gX2_limit_X2_limitOf rfl rfl rfl (by decide +kernel) ⟨Nat.le_of_ble_eq_true rfl, Nat.le_of_ble_eq_true rfl⟩) (cRecvH hK hP) hAc hA hK hX hP hS rfl hl.1 rfl (Nat.le_of_ble_eq_true rfl) dX2_limit_6 ⟨Nat.le_of_ble_eq_true rfl, Nat.le_of_ble_eq_true rfl⟩ (fun E ce q9 H locs hN _ _ _ _ _ => absurd rfl (xN_ne hN)) (fun _ H locs hP hS => ?_)
  have e0 : cFarm σ n = 0 := by (simp [cSeq, cSeq, h_1] <;> omega)
  have eR : fLimit σ n.toNat = fLimit σ n.toNat := by rfl
  exact x_iret hx hb hr hlocks hK hP hS e0 eR dX2_limit_9 (Nat.le_of_ble_eq_true rfl) (Nat.le_of_ble_eq_true rfl)
set_option maxHeartbeats 4000000 in
set_option maxRecDepth 100000 in
theorem h_debt (l : Launch) (hfl : l.stackTraces = false) (G : va_G) (ad : Nat → Nat) (cy : Nat → ClassId) (hI : cI ad) (σ : Sg) (hB : cBd σ) (n : Int) (hn : nB n) : xMi l yX2_debt wsX2_debt ({ frames := 7, cells := 1, slots := 6, locals := 105 } : Room) G ad cy [.ref (ad 0), .int (iI n)] σ (cFarm σ n) (σ (9 + n.toNat) 2) σ 1 := by
  intro sz
  refine vx_ofW (cc := cX2_debt) (maxL := 2) (ret := (some .int)) (by decide) rfl ?_
  intro p e s m args below meth cd s₁ B hml hno hv
  obtain ⟨rfl, hsz, hP, hK, hX⟩ := hv
  have hx := B.exec
  have hb := B.bytes
  have hr := B.returns
  have hts := atoms_spec (ws := wsX2_debt) B.pre
  have hown : s.vm.findClass RX2 = some m.cls := findClass_of_methodNamed B.named
  have hlocks := B.notSynchronized
  subst hsz
  have hS : va_S (cA ad s.heap.size) s.heap s.heap [] := va_S.rf
  have hA : ∀ q, s.heap.size ≤ q → cA ad s.heap.size q := fun _ h => Or.inr h
  have hAc : ∀ j, j < 33 → cA ad s.heap.size (ad j) := fun j h => Or.inl ⟨j, h, rfl⟩
  have hl := lv_entry ([.ref (ad 0), .int (iI n)]) (n := 2) (Nat.le_of_ble_eq_true rfl)
  rw [lg_entry_eq]
  generalize (lg_sl ([.ref (ad 0), .int (iI n)]) ++ List.replicate (2 - (lg_sl ([.ref (ad 0), .int (iI n)])).length) Slot.unset).toArray = ls at hl ⊢
  have hl : lv_has ls 2 [(0, .ref (ad 0)), (1, .int (iI n))] := hl
  have hF1 : ∀ w ∈ wsX10, w ∈ wsX2_debt := by decide +kernel
  have lf128 := hts (.fieldLink RX2 128 "HarvestLender$Farmer" "debt" "J") (by decide +kernel)
  have hcnt := hB.1.1
  have hstg := hB.1.2.2
  have hsea := hB.1.2.1
  refine lv_aload_n hx hb dX2_debt_0 rfl (lv_at hl 0 rfl) ?_
  refine lv_iload_n hx hb dX2_debt_1 rfl (lv_at hl 1 rfl) ?_
  refine k_xq (As := [.int (iI n)]) (rest := []) ⟨hx, hb, hml, hown, hts⟩ (x_farmerAt l hfl G ad cy hI σ hcnt n (by omega)) (cwV 1 hts gX2_debt_X2_farmerAt rfl rfl rfl (by decide +kernel) ⟨Nat.le_of_ble_eq_true rfl, Nat.le_of_ble_eq_true rfl⟩) (cRecvH hK hP) hAc hA hK hX hP hS rfl hl.1 rfl (Nat.le_of_ble_eq_true rfl) dX2_debt_2 ⟨Nat.le_of_ble_eq_true rfl, Nat.le_of_ble_eq_true rfl⟩ (fun E ce q9 H locs hN hP hS e1 e2 e3 => ?_) (fun h_1 H locs hP hS => ?_)
  · exact x_out hno hlocks hK hP hS e1 e2 e3 (by rw [(show cFarm σ n = cFarm σ n by first | rfl | (simp [cSeq, cSeq, xN_ne hN]))]; exact hN) (Nat.le_of_ble_eq_true rfl) (Nat.le_of_ble_eq_true rfl)
  have zh_1 := cFarm_0 h_1
  obtain ⟨g0, g1, g2, g3, g5, g8, g9, g11, g12, g13, g14, g15, g16, gt⟩ := hB.2.2 n.toNat (by omega)
  have gl := fLimit_b hB (i := n.toNat) (by omega)
  refine k_gF (i := n.toNat) (v := .long (iL (σ (9 + n.toNat) 2))) hx hb hts hown hF1 hK hP (by omega) 2 (by decide) lf128 dX2_debt_5 rfl rfl ?_
  refine k_l2i hx hb dX2_debt_8 ?_
  have e0 : cFarm σ n = 0 := by (simp [cSeq, cSeq, h_1] <;> omega)
  have eR : σ (9 + n.toNat) 2 = σ (9 + n.toNat) 2 := by rfl
  exact x_iret hx hb hr hlocks hK hP hS e0 eR dX2_debt_9 (Nat.le_of_ble_eq_true rfl) (Nat.le_of_ble_eq_true rfl)
set_option maxHeartbeats 4000000 in
set_option maxRecDepth 100000 in
theorem h_instalments (l : Launch) (hfl : l.stackTraces = false) (G : va_G) (ad : Nat → Nat) (cy : Nat → ClassId) (hI : cI ad) (σ : Sg) (hB : cBd σ) (n : Int) (hn : nB n) : xMi l yX2_instalments wsX2_instalments ({ frames := 7, cells := 1, slots := 6, locals := 105 } : Room) G ad cy [.ref (ad 0), .int (iI n)] σ (cFarm σ n) (σ (9 + n.toNat) 8) σ 1 := by
  intro sz
  refine vx_ofW (cc := cX2_instalments) (maxL := 2) (ret := (some .int)) (by decide) rfl ?_
  intro p e s m args below meth cd s₁ B hml hno hv
  obtain ⟨rfl, hsz, hP, hK, hX⟩ := hv
  have hx := B.exec
  have hb := B.bytes
  have hr := B.returns
  have hts := atoms_spec (ws := wsX2_instalments) B.pre
  have hown : s.vm.findClass RX2 = some m.cls := findClass_of_methodNamed B.named
  have hlocks := B.notSynchronized
  subst hsz
  have hS : va_S (cA ad s.heap.size) s.heap s.heap [] := va_S.rf
  have hA : ∀ q, s.heap.size ≤ q → cA ad s.heap.size q := fun _ h => Or.inr h
  have hAc : ∀ j, j < 33 → cA ad s.heap.size (ad j) := fun j h => Or.inl ⟨j, h, rfl⟩
  have hl := lv_entry ([.ref (ad 0), .int (iI n)]) (n := 2) (Nat.le_of_ble_eq_true rfl)
  rw [lg_entry_eq]
  generalize (lg_sl ([.ref (ad 0), .int (iI n)]) ++ List.replicate (2 - (lg_sl ([.ref (ad 0), .int (iI n)])).length) Slot.unset).toArray = ls at hl ⊢
  have hl : lv_has ls 2 [(0, .ref (ad 0)), (1, .int (iI n))] := hl
  have hF1 : ∀ w ∈ wsX10, w ∈ wsX2_instalments := by decide +kernel
  have lf155 := hts (.fieldLink RX2 155 "HarvestLender$Farmer" "instalmentsLeft" "I") (by decide +kernel)
  have hcnt := hB.1.1
  have hstg := hB.1.2.2
  have hsea := hB.1.2.1
  refine lv_aload_n hx hb dX2_instalments_0 rfl (lv_at hl 0 rfl) ?_
  refine lv_iload_n hx hb dX2_instalments_1 rfl (lv_at hl 1 rfl) ?_
  refine k_xq (As := [.int (iI n)]) (rest := []) ⟨hx, hb, hml, hown, hts⟩ (x_farmerAt l hfl G ad cy hI σ hcnt n (by omega)) (cwV 1 hts gX2_instalments_X2_farmerAt rfl rfl rfl (by decide +kernel) ⟨Nat.le_of_ble_eq_true rfl, Nat.le_of_ble_eq_true rfl⟩) (cRecvH hK hP) hAc hA hK hX hP hS rfl hl.1 rfl (Nat.le_of_ble_eq_true rfl) dX2_instalments_2 ⟨Nat.le_of_ble_eq_true rfl, Nat.le_of_ble_eq_true rfl⟩ (fun E ce q9 H locs hN hP hS e1 e2 e3 => ?_) (fun h_1 H locs hP hS => ?_)
  · exact x_out hno hlocks hK hP hS e1 e2 e3 (by rw [(show cFarm σ n = cFarm σ n by first | rfl | (simp [cSeq, cSeq, xN_ne hN]))]; exact hN) (Nat.le_of_ble_eq_true rfl) (Nat.le_of_ble_eq_true rfl)
  have zh_1 := cFarm_0 h_1
  obtain ⟨g0, g1, g2, g3, g5, g8, g9, g11, g12, g13, g14, g15, g16, gt⟩ := hB.2.2 n.toNat (by omega)
  have gl := fLimit_b hB (i := n.toNat) (by omega)
  refine k_gF (i := n.toNat) (v := .int (iI (σ (9 + n.toNat) 8))) hx hb hts hown hF1 hK hP (by omega) 8 (by decide) lf155 dX2_instalments_5 rfl rfl ?_
  have e0 : cFarm σ n = 0 := by (simp [cSeq, cSeq, h_1] <;> omega)
  have eR : σ (9 + n.toNat) 8 = σ (9 + n.toNat) 8 := by rfl
  exact x_iret hx hb hr hlocks hK hP hS e0 eR dX2_instalments_8 (Nat.le_of_ble_eq_true rfl) (Nat.le_of_ble_eq_true rfl)
set_option maxHeartbeats 4000000 in
set_option maxRecDepth 100000 in
theorem h_purse (l : Launch) (hfl : l.stackTraces = false) (G : va_G) (ad : Nat → Nat) (cy : Nat → ClassId) (hI : cI ad) (σ : Sg) (hB : cBd σ) (n : Int) (hn : nB n) : xMi l yX2_purse wsX2_purse ({ frames := 7, cells := 1, slots := 6, locals := 105 } : Room) G ad cy [.ref (ad 0), .int (iI n)] σ (cFarm σ n) (σ (9 + n.toNat) 1) σ 1 := by
  intro sz
  refine vx_ofW (cc := cX2_purse) (maxL := 2) (ret := (some .int)) (by decide) rfl ?_
  intro p e s m args below meth cd s₁ B hml hno hv
  obtain ⟨rfl, hsz, hP, hK, hX⟩ := hv
  have hx := B.exec
  have hb := B.bytes
  have hr := B.returns
  have hts := atoms_spec (ws := wsX2_purse) B.pre
  have hown : s.vm.findClass RX2 = some m.cls := findClass_of_methodNamed B.named
  have hlocks := B.notSynchronized
  subst hsz
  have hS : va_S (cA ad s.heap.size) s.heap s.heap [] := va_S.rf
  have hA : ∀ q, s.heap.size ≤ q → cA ad s.heap.size q := fun _ h => Or.inr h
  have hAc : ∀ j, j < 33 → cA ad s.heap.size (ad j) := fun j h => Or.inl ⟨j, h, rfl⟩
  have hl := lv_entry ([.ref (ad 0), .int (iI n)]) (n := 2) (Nat.le_of_ble_eq_true rfl)
  rw [lg_entry_eq]
  generalize (lg_sl ([.ref (ad 0), .int (iI n)]) ++ List.replicate (2 - (lg_sl ([.ref (ad 0), .int (iI n)])).length) Slot.unset).toArray = ls at hl ⊢
  have hl : lv_has ls 2 [(0, .ref (ad 0)), (1, .int (iI n))] := hl
  have hF1 : ∀ w ∈ wsX10, w ∈ wsX2_purse := by decide +kernel
  have lf132 := hts (.fieldLink RX2 132 "HarvestLender$Farmer" "purse" "J") (by decide +kernel)
  have hcnt := hB.1.1
  have hstg := hB.1.2.2
  have hsea := hB.1.2.1
  refine lv_aload_n hx hb dX2_purse_0 rfl (lv_at hl 0 rfl) ?_
  refine lv_iload_n hx hb dX2_purse_1 rfl (lv_at hl 1 rfl) ?_
  refine k_xq (As := [.int (iI n)]) (rest := []) ⟨hx, hb, hml, hown, hts⟩ (x_farmerAt l hfl G ad cy hI σ hcnt n (by omega)) (cwV 1 hts gX2_purse_X2_farmerAt rfl rfl rfl (by decide +kernel) ⟨Nat.le_of_ble_eq_true rfl, Nat.le_of_ble_eq_true rfl⟩) (cRecvH hK hP) hAc hA hK hX hP hS rfl hl.1 rfl (Nat.le_of_ble_eq_true rfl) dX2_purse_2 ⟨Nat.le_of_ble_eq_true rfl, Nat.le_of_ble_eq_true rfl⟩ (fun E ce q9 H locs hN hP hS e1 e2 e3 => ?_) (fun h_1 H locs hP hS => ?_)
  · exact x_out hno hlocks hK hP hS e1 e2 e3 (by rw [(show cFarm σ n = cFarm σ n by first | rfl | (simp [cSeq, cSeq, xN_ne hN]))]; exact hN) (Nat.le_of_ble_eq_true rfl) (Nat.le_of_ble_eq_true rfl)
  have zh_1 := cFarm_0 h_1
  obtain ⟨g0, g1, g2, g3, g5, g8, g9, g11, g12, g13, g14, g15, g16, gt⟩ := hB.2.2 n.toNat (by omega)
  have gl := fLimit_b hB (i := n.toNat) (by omega)
  refine k_gF (i := n.toNat) (v := .long (iL (σ (9 + n.toNat) 1))) hx hb hts hown hF1 hK hP (by omega) 1 (by decide) lf132 dX2_purse_5 rfl rfl ?_
  refine k_l2i hx hb dX2_purse_8 ?_
  have e0 : cFarm σ n = 0 := by (simp [cSeq, cSeq, h_1] <;> omega)
  have eR : σ (9 + n.toNat) 1 = σ (9 + n.toNat) 1 := by rfl
  exact x_iret hx hb hr hlocks hK hP hS e0 eR dX2_purse_9 (Nat.le_of_ble_eq_true rfl) (Nat.le_of_ble_eq_true rfl)
set_option maxHeartbeats 4000000 in
set_option maxRecDepth 100000 in
theorem h_called (l : Launch) (hfl : l.stackTraces = false) (G : va_G) (ad : Nat → Nat) (cy : Nat → ClassId) (hI : cI ad) (σ : Sg) (hB : cBd σ) (n : Int) (hn : nB n) : xMi l yX2_called wsX2_called ({ frames := 7, cells := 1, slots := 6, locals := 105 } : Room) G ad cy [.ref (ad 0), .int (iI n)] σ (cFarm σ n) (σ (9 + n.toNat) 5) σ 1 := by
  intro sz
  refine vx_ofW (cc := cX2_called) (maxL := 2) (ret := (some .int)) (by decide) rfl ?_
  intro p e s m args below meth cd s₁ B hml hno hv
  obtain ⟨rfl, hsz, hP, hK, hX⟩ := hv
  have hx := B.exec
  have hb := B.bytes
  have hr := B.returns
  have hts := atoms_spec (ws := wsX2_called) B.pre
  have hown : s.vm.findClass RX2 = some m.cls := findClass_of_methodNamed B.named
  have hlocks := B.notSynchronized
  subst hsz
  have hS : va_S (cA ad s.heap.size) s.heap s.heap [] := va_S.rf
  have hA : ∀ q, s.heap.size ≤ q → cA ad s.heap.size q := fun _ h => Or.inr h
  have hAc : ∀ j, j < 33 → cA ad s.heap.size (ad j) := fun j h => Or.inl ⟨j, h, rfl⟩
  have hl := lv_entry ([.ref (ad 0), .int (iI n)]) (n := 2) (Nat.le_of_ble_eq_true rfl)
  rw [lg_entry_eq]
  generalize (lg_sl ([.ref (ad 0), .int (iI n)]) ++ List.replicate (2 - (lg_sl ([.ref (ad 0), .int (iI n)])).length) Slot.unset).toArray = ls at hl ⊢
  have hl : lv_has ls 2 [(0, .ref (ad 0)), (1, .int (iI n))] := hl
  have hF1 : ∀ w ∈ wsX10, w ∈ wsX2_called := by decide +kernel
  have lf161 := hts (.fieldLink RX2 161 "HarvestLender$Farmer" "called" "J") (by decide +kernel)
  have hcnt := hB.1.1
  have hstg := hB.1.2.2
  have hsea := hB.1.2.1
  refine lv_aload_n hx hb dX2_called_0 rfl (lv_at hl 0 rfl) ?_
  refine lv_iload_n hx hb dX2_called_1 rfl (lv_at hl 1 rfl) ?_
  refine k_xq (As := [.int (iI n)]) (rest := []) ⟨hx, hb, hml, hown, hts⟩ (x_farmerAt l hfl G ad cy hI σ hcnt n (by omega)) (cwV 1 hts gX2_called_X2_farmerAt rfl rfl rfl (by decide +kernel) ⟨Nat.le_of_ble_eq_true rfl, Nat.le_of_ble_eq_true rfl⟩) (cRecvH hK hP) hAc hA hK hX hP hS rfl hl.1 rfl (Nat.le_of_ble_eq_true rfl) dX2_called_2 ⟨Nat.le_of_ble_eq_true rfl, Nat.le_of_ble_eq_true rfl⟩ (fun E ce q9 H locs hN hP hS e1 e2 e3 => ?_) (fun h_1 H locs hP hS => ?_)
  · exact x_out hno hlocks hK hP hS e1 e2 e3 (by rw [(show cFarm σ n = cFarm σ n by first | rfl | (simp [cSeq, cSeq, xN_ne hN]))]; exact hN) (Nat.le_of_ble_eq_true rfl) (Nat.le_of_ble_eq_true rfl)
  have zh_1 := cFarm_0 h_1
  obtain ⟨g0, g1, g2, g3, g5, g8, g9, g11, g12, g13, g14, g15, g16, gt⟩ := hB.2.2 n.toNat (by omega)
  have gl := fLimit_b hB (i := n.toNat) (by omega)
  refine k_gF (i := n.toNat) (v := .long (iL (σ (9 + n.toNat) 5))) hx hb hts hown hF1 hK hP (by omega) 5 (by decide) lf161 dX2_called_5 rfl rfl ?_
  refine k_l2i hx hb dX2_called_8 ?_
  have e0 : cFarm σ n = 0 := by (simp [cSeq, cSeq, h_1] <;> omega)
  have eR : σ (9 + n.toNat) 5 = σ (9 + n.toNat) 5 := by rfl
  exact x_iret hx hb hr hlocks hK hP hS e0 eR dX2_called_9 (Nat.le_of_ble_eq_true rfl) (Nat.le_of_ble_eq_true rfl)
set_option maxHeartbeats 4000000 in
set_option maxRecDepth 100000 in
theorem h_charged (l : Launch) (hfl : l.stackTraces = false) (G : va_G) (ad : Nat → Nat) (cy : Nat → ClassId) (hI : cI ad) (σ : Sg) (hB : cBd σ) (n : Int) (hn : nB n) : xMi l yX2_charged wsX2_charged ({ frames := 7, cells := 1, slots := 6, locals := 105 } : Room) G ad cy [.ref (ad 0), .int (iI n)] σ (cFarm σ n) (σ (9 + n.toNat) 4) σ 1 := by
  intro sz
  refine vx_ofW (cc := cX2_charged) (maxL := 2) (ret := (some .int)) (by decide) rfl ?_
  intro p e s m args below meth cd s₁ B hml hno hv
  obtain ⟨rfl, hsz, hP, hK, hX⟩ := hv
  have hx := B.exec
  have hb := B.bytes
  have hr := B.returns
  have hts := atoms_spec (ws := wsX2_charged) B.pre
  have hown : s.vm.findClass RX2 = some m.cls := findClass_of_methodNamed B.named
  have hlocks := B.notSynchronized
  subst hsz
  have hS : va_S (cA ad s.heap.size) s.heap s.heap [] := va_S.rf
  have hA : ∀ q, s.heap.size ≤ q → cA ad s.heap.size q := fun _ h => Or.inr h
  have hAc : ∀ j, j < 33 → cA ad s.heap.size (ad j) := fun j h => Or.inl ⟨j, h, rfl⟩
  have hl := lv_entry ([.ref (ad 0), .int (iI n)]) (n := 2) (Nat.le_of_ble_eq_true rfl)
  rw [lg_entry_eq]
  generalize (lg_sl ([.ref (ad 0), .int (iI n)]) ++ List.replicate (2 - (lg_sl ([.ref (ad 0), .int (iI n)])).length) Slot.unset).toArray = ls at hl ⊢
  have hl : lv_has ls 2 [(0, .ref (ad 0)), (1, .int (iI n))] := hl
  have hF1 : ∀ w ∈ wsX10, w ∈ wsX2_charged := by decide +kernel
  have lf168 := hts (.fieldLink RX2 168 "HarvestLender$Farmer" "charged" "J") (by decide +kernel)
  have hcnt := hB.1.1
  have hstg := hB.1.2.2
  have hsea := hB.1.2.1
  refine lv_aload_n hx hb dX2_charged_0 rfl (lv_at hl 0 rfl) ?_
  refine lv_iload_n hx hb dX2_charged_1 rfl (lv_at hl 1 rfl) ?_
  refine k_xq (As := [.int (iI n)]) (rest := []) ⟨hx, hb, hml, hown, hts⟩ (x_farmerAt l hfl G ad cy hI σ hcnt n (by omega)) (cwV 1 hts gX2_charged_X2_farmerAt rfl rfl rfl (by decide +kernel) ⟨Nat.le_of_ble_eq_true rfl, Nat.le_of_ble_eq_true rfl⟩) (cRecvH hK hP) hAc hA hK hX hP hS rfl hl.1 rfl (Nat.le_of_ble_eq_true rfl) dX2_charged_2 ⟨Nat.le_of_ble_eq_true rfl, Nat.le_of_ble_eq_true rfl⟩ (fun E ce q9 H locs hN hP hS e1 e2 e3 => ?_) (fun h_1 H locs hP hS => ?_)
  · exact x_out hno hlocks hK hP hS e1 e2 e3 (by rw [(show cFarm σ n = cFarm σ n by first | rfl | (simp [cSeq, cSeq, xN_ne hN]))]; exact hN) (Nat.le_of_ble_eq_true rfl) (Nat.le_of_ble_eq_true rfl)
  have zh_1 := cFarm_0 h_1
  obtain ⟨g0, g1, g2, g3, g5, g8, g9, g11, g12, g13, g14, g15, g16, gt⟩ := hB.2.2 n.toNat (by omega)
  have gl := fLimit_b hB (i := n.toNat) (by omega)
  refine k_gF (i := n.toNat) (v := .long (iL (σ (9 + n.toNat) 4))) hx hb hts hown hF1 hK hP (by omega) 4 (by decide) lf168 dX2_charged_5 rfl rfl ?_
  refine k_l2i hx hb dX2_charged_8 ?_
  have e0 : cFarm σ n = 0 := by (simp [cSeq, cSeq, h_1] <;> omega)
  have eR : σ (9 + n.toNat) 4 = σ (9 + n.toNat) 4 := by rfl
  exact x_iret hx hb hr hlocks hK hP hS e0 eR dX2_charged_9 (Nat.le_of_ble_eq_true rfl) (Nat.le_of_ble_eq_true rfl)
set_option maxHeartbeats 4000000 in
set_option maxRecDepth 100000 in
theorem h_owes (l : Launch) (hfl : l.stackTraces = false) (G : va_G) (ad : Nat → Nat) (cy : Nat → ClassId) (hI : cI ad) (σ : Sg) (hB : cBd σ) (n : Int) (hn : nB n) : xMi l yX2_owes wsX2_owes ({ frames := 7, cells := 1, slots := 6, locals := 105 } : Room) G ad cy [.ref (ad 0), .int (iI n)] σ (cFarm σ n) (σ (9 + n.toNat) 2 + σ (9 + n.toNat) 3 + fSum σ n.toNat 3) σ 1 := by
  intro sz
  refine vx_ofW (cc := cX2_owes) (maxL := 3) (ret := (some .int)) (by decide) rfl ?_
  intro p e s m args below meth cd s₁ B hml hno hv
  obtain ⟨rfl, hsz, hP, hK, hX⟩ := hv
  have hx := B.exec
  have hb := B.bytes
  have hr := B.returns
  have hts := atoms_spec (ws := wsX2_owes) B.pre
  have hown : s.vm.findClass RX2 = some m.cls := findClass_of_methodNamed B.named
  have hlocks := B.notSynchronized
  subst hsz
  have hS : va_S (cA ad s.heap.size) s.heap s.heap [] := va_S.rf
  have hA : ∀ q, s.heap.size ≤ q → cA ad s.heap.size q := fun _ h => Or.inr h
  have hAc : ∀ j, j < 33 → cA ad s.heap.size (ad j) := fun j h => Or.inl ⟨j, h, rfl⟩
  have hl := lv_entry ([.ref (ad 0), .int (iI n)]) (n := 3) (Nat.le_of_ble_eq_true rfl)
  rw [lg_entry_eq]
  generalize (lg_sl ([.ref (ad 0), .int (iI n)]) ++ List.replicate (3 - (lg_sl ([.ref (ad 0), .int (iI n)])).length) Slot.unset).toArray = ls at hl ⊢
  have hl : lv_has ls 3 [(0, .ref (ad 0)), (1, .int (iI n))] := hl
  have hF1 : ∀ w ∈ wsX10, w ∈ wsX2_owes := by decide +kernel
  have lf128 := hts (.fieldLink RX2 128 "HarvestLender$Farmer" "debt" "J") (by decide +kernel)
  have lf148 := hts (.fieldLink RX2 148 "HarvestLender$Farmer" "pledgeDebt" "J") (by decide +kernel)
  have hcnt := hB.1.1
  have hstg := hB.1.2.2
  have hsea := hB.1.2.1
  refine lv_aload_n hx hb dX2_owes_0 rfl (lv_at hl 0 rfl) ?_
  refine lv_iload_n hx hb dX2_owes_1 rfl (lv_at hl 1 rfl) ?_
  refine k_xq (As := [.int (iI n)]) (rest := []) ⟨hx, hb, hml, hown, hts⟩ (x_farmerAt l hfl G ad cy hI σ hcnt n (by omega)) (cwV 1 hts gX2_owes_X2_farmerAt rfl rfl rfl (by decide +kernel) ⟨Nat.le_of_ble_eq_true rfl, Nat.le_of_ble_eq_true rfl⟩) (cRecvH hK hP) hAc hA hK hX hP hS rfl hl.1 rfl (Nat.le_of_ble_eq_true rfl) dX2_owes_2 ⟨Nat.le_of_ble_eq_true rfl, Nat.le_of_ble_eq_true rfl⟩ (fun E ce q9 H locs hN hP hS e1 e2 e3 => ?_) (fun h_1 H locs hP hS => ?_)
  · exact x_out hno hlocks hK hP hS e1 e2 e3 (by rw [(show cFarm σ n = cFarm σ n by first | rfl | (simp [cSeq, cSeq, xN_ne hN]))]; exact hN) (Nat.le_of_ble_eq_true rfl) (Nat.le_of_ble_eq_true rfl)
  have zh_1 := cFarm_0 h_1
  obtain ⟨g0, g1, g2, g3, g5, g8, g9, g11, g12, g13, g14, g15, g16, gt⟩ := hB.2.2 n.toNat (by omega)
  have gl := fLimit_b hB (i := n.toNat) (by omega)
  refine lv_astore_n (lv' := [(2, .ref (ad (9 + n.toNat))), (0, .ref (ad 0)), (1, .int (iI n))]) hx hb dX2_owes_5 rfl hl (by decide) rfl (fun ls hl => ?_)
  refine lv_aload_n hx hb dX2_owes_6 rfl (lv_at hl 0 rfl) ?_
  refine k_gF (i := n.toNat) (v := .long (iL (σ (9 + n.toNat) 2))) hx hb hts hown hF1 hK hP (by omega) 2 (by decide) lf128 dX2_owes_7 rfl rfl ?_
  refine lv_aload_n hx hb dX2_owes_10 rfl (lv_at hl 0 rfl) ?_
  refine k_gF (i := n.toNat) (v := .long (iL (σ (9 + n.toNat) 3))) hx hb hts hown hF1 hK hP (by omega) 3 (by decide) lf148 dX2_owes_11 rfl rfl ?_
  refine k_ladd hx hb dX2_owes_14 ?_
  refine lv_aload_n hx hb dX2_owes_15 rfl (lv_at hl 0 rfl) ?_
  refine k_cl (As := []) (rest := [.long (iL ((σ (9 + n.toNat) 2) + (σ (9 + n.toNat) 3)))]) ⟨hx, hb, hml, hown, hts⟩ (c_sum l G ad cy hI σ n.toNat (by omega) (by omega)) (cwV 0 hts gX2_owes_X1_instalmentSum rfl rfl rfl (by decide +kernel) ⟨Nat.le_of_ble_eq_true rfl, Nat.le_of_ble_eq_true rfl⟩) (cRecvF hK hP (by omega)) hAc hA hK hP hS rfl hl.1 rfl (Nat.le_of_ble_eq_true rfl) dX2_owes_16 ⟨Nat.le_of_ble_eq_true rfl, Nat.le_of_ble_eq_true rfl⟩ (fun H locs hP hS => ?_)
  refine k_ladd hx hb dX2_owes_19 ?_
  refine k_l2i hx hb dX2_owes_20 ?_
  have e0 : cFarm σ n = 0 := by (simp [cSeq, cSeq, h_1] <;> omega)
  have eR : ((σ (9 + n.toNat) 2) + (σ (9 + n.toNat) 3)) + (fSum σ n.toNat 3) = σ (9 + n.toNat) 2 + σ (9 + n.toNat) 3 + fSum σ n.toNat 3 := by first | rfl | (simp only [up_s]; done) | (simp only [up_s]; repeat' split) <;> first | rfl | (exfalso; omega) | omega
  exact x_iret hx hb hr hlocks hK hP hS e0 eR dX2_owes_21 (Nat.le_of_ble_eq_true rfl) (Nat.le_of_ble_eq_true rfl)
set_option maxHeartbeats 4000000 in
set_option maxRecDepth 100000 in
theorem h_grain (l : Launch) (hfl : l.stackTraces = false) (G : va_G) (ad : Nat → Nat) (cy : Nat → ClassId) (hI : cI ad) (σ : Sg) (hB : cBd σ) (n b : Int) (hn : nB n) (hb : nB b) : xMi l yX2_grain wsX2_grain ({ frames := 7, cells := 1, slots := 6, locals := 105 } : Room) G ad cy [.ref (ad 0), .int (iI n), .int (iI b)] σ (cFarm σ n) (if b = 0 then σ (9 + n.toNat) 9 else σ (9 + n.toNat) 10) σ 1 := by
  intro sz
  refine vx_ofW (cc := cX2_grain) (maxL := 4) (ret := (some .int)) (by decide) rfl ?_
  intro p e s m args below meth cd s₁ B hml hno hv
  obtain ⟨rfl, hsz, hP, hK, hX⟩ := hv
  have hx := B.exec
  have hb := B.bytes
  have hr := B.returns
  have hts := atoms_spec (ws := wsX2_grain) B.pre
  have hown : s.vm.findClass RX2 = some m.cls := findClass_of_methodNamed B.named
  have hlocks := B.notSynchronized
  subst hsz
  have hS : va_S (cA ad s.heap.size) s.heap s.heap [] := va_S.rf
  have hA : ∀ q, s.heap.size ≤ q → cA ad s.heap.size q := fun _ h => Or.inr h
  have hAc : ∀ j, j < 33 → cA ad s.heap.size (ad j) := fun j h => Or.inl ⟨j, h, rfl⟩
  have hl := lv_entry ([.ref (ad 0), .int (iI n), .int (iI b)]) (n := 4) (Nat.le_of_ble_eq_true rfl)
  rw [lg_entry_eq]
  generalize (lg_sl ([.ref (ad 0), .int (iI n), .int (iI b)]) ++ List.replicate (4 - (lg_sl ([.ref (ad 0), .int (iI n), .int (iI b)])).length) Slot.unset).toArray = ls at hl ⊢
  have hl : lv_has ls 4 [(0, .ref (ad 0)), (1, .int (iI n)), (2, .int (iI b))] := hl
  have hF1 : ∀ w ∈ wsX10, w ∈ wsX2_grain := by decide +kernel
  have lf76 := hts (.fieldLink RX2 76 "HarvestLender$Farmer" "grain" "I") (by decide +kernel)
  have lf158 := hts (.fieldLink RX2 158 "HarvestLender$Farmer" "pledgedGrain" "I") (by decide +kernel)
  have hcnt := hB.1.1
  have hstg := hB.1.2.2
  have hsea := hB.1.2.1
  refine lv_aload_n hx hb dX2_grain_0 rfl (lv_at hl 0 rfl) ?_
  refine lv_iload_n hx hb dX2_grain_1 rfl (lv_at hl 1 rfl) ?_
  refine k_xq (As := [.int (iI n)]) (rest := []) ⟨hx, hb, hml, hown, hts⟩ (x_farmerAt l hfl G ad cy hI σ hcnt n (by omega)) (cwV 1 hts gX2_grain_X2_farmerAt rfl rfl rfl (by decide +kernel) ⟨Nat.le_of_ble_eq_true rfl, Nat.le_of_ble_eq_true rfl⟩) (cRecvH hK hP) hAc hA hK hX hP hS rfl hl.1 rfl (Nat.le_of_ble_eq_true rfl) dX2_grain_2 ⟨Nat.le_of_ble_eq_true rfl, Nat.le_of_ble_eq_true rfl⟩ (fun E ce q9 H locs hN hP hS e1 e2 e3 => ?_) (fun h_1 H locs hP hS => ?_)
  · exact x_out hno hlocks hK hP hS e1 e2 e3 (by rw [(show cFarm σ n = cFarm σ n by first | rfl | (simp [cSeq, cSeq, xN_ne hN]))]; exact hN) (Nat.le_of_ble_eq_true rfl) (Nat.le_of_ble_eq_true rfl)
  have zh_1 := cFarm_0 h_1
  obtain ⟨g0, g1, g2, g3, g5, g8, g9, g11, g12, g13, g14, g15, g16, gt⟩ := hB.2.2 n.toNat (by omega)
  have gl := fLimit_b hB (i := n.toNat) (by omega)
  refine lv_astore_n (lv' := [(3, .ref (ad (9 + n.toNat))), (0, .ref (ad 0)), (1, .int (iI n)), (2, .int (iI b))]) hx hb dX2_grain_5 rfl hl (by decide) rfl (fun ls hl => ?_)
  refine lv_iload_n hx hb dX2_grain_6 rfl (lv_at hl 3 rfl) ?_
  refine k_if_eq (tgt := 17) hx hb dX2_grain_7 (by decide) (by omega) (fun c_2 => ?_) (fun c_2 => ?_)
  · refine lv_aload_n hx hb dX2_grain_17 rfl (lv_at hl 0 rfl) ?_
    refine k_gF (i := n.toNat) (v := .int (iI (σ (9 + n.toNat) 9))) hx hb hts hown hF1 hK hP (by omega) 9 (by decide) lf76 dX2_grain_18 rfl rfl ?_
    have e0 : cFarm σ n = 0 := by (simp [cSeq, cSeq, h_1, c_2] <;> omega)
    have eR : σ (9 + n.toNat) 9 = if b = 0 then σ (9 + n.toNat) 9 else σ (9 + n.toNat) 10 := by (first | (rw [if_pos (by assumption)]) | (rw [if_neg (by assumption)]))
    exact x_iret hx hb hr hlocks hK hP hS e0 eR dX2_grain_21 (Nat.le_of_ble_eq_true rfl) (Nat.le_of_ble_eq_true rfl)
  · refine lv_aload_n hx hb dX2_grain_10 rfl (lv_at hl 0 rfl) ?_
    refine k_gF (i := n.toNat) (v := .int (iI (σ (9 + n.toNat) 10))) hx hb hts hown hF1 hK hP (by omega) 10 (by decide) lf158 dX2_grain_11 rfl rfl ?_
    refine lv_goto (tgt := 21) hx hb dX2_grain_14 (by decide) ?_
    have e0 : cFarm σ n = 0 := by (simp [cSeq, cSeq, h_1, c_2] <;> omega)
    have eR : σ (9 + n.toNat) 10 = if b = 0 then σ (9 + n.toNat) 9 else σ (9 + n.toNat) 10 := by (first | (rw [if_pos (by assumption)]) | (rw [if_neg (by assumption)]))
    exact x_iret hx hb hr hlocks hK hP hS e0 eR dX2_grain_21 (Nat.le_of_ble_eq_true rfl) (Nat.le_of_ble_eq_true rfl)
set_option maxHeartbeats 4000000 in
set_option maxRecDepth 100000 in
theorem h_repaid (l : Launch) (hfl : l.stackTraces = false) (G : va_G) (ad : Nat → Nat) (cy : Nat → ClassId) (hI : cI ad) (σ : Sg) (hB : cBd σ) (n x : Int) (hn : nB n) (hx : nB x) : xMi l yX2_repaid wsX2_repaid ({ frames := 7, cells := 2, slots := 12, locals := 106 } : Room) G ad cy [.ref (ad 0), .int (iI n), .int (iI x)] σ (kRepaid σ n x) (σ (17 + n.toNat) x.toNat) σ 2 := by
  intro sz
  refine vx_ofW (cc := cX2_repaid) (maxL := 4) (ret := (some .int)) (by decide) rfl ?_
  intro p e s m args below meth cd s₁ B hml hno hv
  obtain ⟨rfl, hsz, hP, hK, hX⟩ := hv
  have hx := B.exec
  have hb := B.bytes
  have hr := B.returns
  have hts := atoms_spec (ws := wsX2_repaid) B.pre
  have hown : s.vm.findClass RX2 = some m.cls := findClass_of_methodNamed B.named
  have hlocks := B.notSynchronized
  subst hsz
  have hS : va_S (cA ad s.heap.size) s.heap s.heap [] := va_S.rf
  have hA : ∀ q, s.heap.size ≤ q → cA ad s.heap.size q := fun _ h => Or.inr h
  have hAc : ∀ j, j < 33 → cA ad s.heap.size (ad j) := fun j h => Or.inl ⟨j, h, rfl⟩
  have hl := lv_entry ([.ref (ad 0), .int (iI n), .int (iI x)]) (n := 4) (Nat.le_of_ble_eq_true rfl)
  rw [lg_entry_eq]
  generalize (lg_sl ([.ref (ad 0), .int (iI n), .int (iI x)]) ++ List.replicate (4 - (lg_sl ([.ref (ad 0), .int (iI n), .int (iI x)])).length) Slot.unset).toArray = ls at hl ⊢
  have hl : lv_has ls 4 [(0, .ref (ad 0)), (1, .int (iI n)), (2, .int (iI x))] := hl
  have hF1 : ∀ w ∈ wsX10, w ∈ wsX2_repaid := by decide +kernel
  have lf164 := hts (.fieldLink RX2 164 "HarvestLender$Farmer" "repaid" "[J") (by decide +kernel)
  have hcnt := hB.1.1
  have hstg := hB.1.2.2
  have hsea := hB.1.2.1
  refine lv_aload_n hx hb dX2_repaid_0 rfl (lv_at hl 0 rfl) ?_
  refine lv_iload_n hx hb dX2_repaid_1 rfl (lv_at hl 1 rfl) ?_
  refine k_xq (As := [.int (iI n)]) (rest := []) ⟨hx, hb, hml, hown, hts⟩ (x_farmerAt l hfl G ad cy hI σ hcnt n (by omega)) (cwV 1 hts gX2_repaid_X2_farmerAt rfl rfl rfl (by decide +kernel) ⟨Nat.le_of_ble_eq_true rfl, Nat.le_of_ble_eq_true rfl⟩) (cRecvH hK hP) hAc hA hK hX hP hS rfl hl.1 rfl (Nat.le_of_ble_eq_true rfl) dX2_repaid_2 ⟨Nat.le_of_ble_eq_true rfl, Nat.le_of_ble_eq_true rfl⟩ (fun E ce q9 H locs hN hP hS e1 e2 e3 => ?_) (fun h_1 H locs hP hS => ?_)
  · exact x_out hno hlocks hK hP hS e1 e2 e3 (by rw [(show kRepaid σ n x = cFarm σ n by first | rfl | (simp [kRepaid, cSeq, xN_ne hN]))]; exact hN) (Nat.le_of_ble_eq_true rfl) (Nat.le_of_ble_eq_true rfl)
  have zh_1 := cFarm_0 h_1
  obtain ⟨g0, g1, g2, g3, g5, g8, g9, g11, g12, g13, g14, g15, g16, gt⟩ := hB.2.2 n.toNat (by omega)
  have gl := fLimit_b hB (i := n.toNat) (by omega)
  refine lv_astore_n (lv' := [(3, .ref (ad (9 + n.toNat))), (0, .ref (ad 0)), (1, .int (iI n)), (2, .int (iI x))]) hx hb dX2_repaid_5 rfl hl (by decide) rfl (fun ls hl => ?_)
  refine lv_iload_n hx hb dX2_repaid_6 rfl (lv_at hl 3 rfl) ?_
  refine k_iconst hx hb dX2_repaid_7 ?_
  refine k_iconst hx hb dX2_repaid_8 ?_
  refine k_xsv (As := [.int (iI x), .int (iI 0), .int (iI 4)]) (rest := []) ⟨hx, hb, hml, hown, hts⟩ (x_range l hfl G ad cy hI σ x 0 4 (by omega) (by omega) (by omega)) (va_cwS 3 hts gX2_repaid_X2_requireRange rfl rfl rfl (by decide +kernel) ⟨Nat.le_of_ble_eq_true rfl, Nat.le_of_ble_eq_true rfl⟩)  hAc hA hK hX hP hS rfl hl.1 rfl (Nat.le_of_ble_eq_true rfl) dX2_repaid_9 ⟨Nat.le_of_ble_eq_true rfl, Nat.le_of_ble_eq_true rfl⟩ (fun E ce q9 H locs hN hP hS e1 e2 e3 => ?_) (fun h_2 H locs hP hS => ?_)
  · exact x_out hno hlocks hK hP hS e1 e2 e3 (by rw [(show kRepaid σ n x = cRange x 0 4 by first | rfl | (simp [kRepaid, cSeq, h_1, xN_ne hN]))]; exact hN) (Nat.le_of_ble_eq_true rfl) (Nat.le_of_ble_eq_true rfl)
  have zh_2 := cRange_0 h_2
  refine lv_aload_n hx hb dX2_repaid_12 rfl (lv_at hl 0 rfl) ?_
  refine k_gF (i := n.toNat) (v := .ref (ad (17 + n.toNat))) hx hb hts hown hF1 hK hP (by omega) 6 (by decide) lf164 dX2_repaid_13 rfl rfl ?_
  refine lv_iload_n hx hb dX2_repaid_16 rfl (lv_at hl 3 rfl) ?_
  refine k_rld (i := n.toNat) (x := x) hx hb hK hP (by omega) (by omega) (by omega) dX2_repaid_17 ?_
  refine k_l2i hx hb dX2_repaid_18 ?_
  have e0 : kRepaid σ n x = 0 := by (simp [kRepaid, cSeq, h_1, h_2] <;> omega)
  have eR : σ (17 + n.toNat) x.toNat = σ (17 + n.toNat) x.toNat := by rfl
  exact x_iret hx hb hr hlocks hK hP hS e0 eR dX2_repaid_19 (Nat.le_of_ble_eq_true rfl) (Nat.le_of_ble_eq_true rfl)
