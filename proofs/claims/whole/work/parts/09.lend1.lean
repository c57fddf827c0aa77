set_option maxHeartbeats 4000000 in
set_option maxRecDepth 100000 in
theorem x_cropAt (l : Launch) (hfl : l.stackTraces = false) (G : va_G) (ad : Nat → Nat) (cy : Nat → ClassId) (hI : cI ad) (σ : Sg) (n : Int) (hn : nB n) : xMq l yX2_cropAt wsX2_cropAt ({ frames := 6, cells := 1, slots := 6, locals := 84 } : Room) G ad cy [.ref (ad 0), .int (iI n)] σ (cCrop n) (ad (3 + n.toNat)) σ 1 := by
  intro sz
  refine vx_ofW (cc := cX2_cropAt) (maxL := 2) (ret := (some (.object "HarvestLender$Crop"))) (by decide) rfl ?_
  intro p e s m args below meth cd s₁ B hml hno hv
  obtain ⟨rfl, hsz, hP, hK, hX⟩ := hv
  have hx := B.exec
  have hb := B.bytes
  have hr := B.returns
  have hts := atoms_spec (ws := wsX2_cropAt) B.pre
  have hown : s.vm.findClass RX2 = some m.cls := findClass_of_methodNamed B.named
  have hlocks := B.notSynchronized
  subst hsz
  have hS : va_S (cA ad s.heap.size) s.heap s.heap [] := va_S.rf
  have hA : ∀ q, s.heap.size ≤ q → cA ad s.heap.size q := fun _ h => Or.inr h
  have hAc : ∀ j, j < 33 → cA ad s.heap.size (ad j) := fun j h => Or.inl ⟨j, h, rfl⟩
  have hl := lv_entry ([.ref (ad 0), .int (iI n)]) (n := 2) (Nat.le_of_ble_eq_true rfl)
  rw [lg_entry_eq]
  generalize (lg_sl ([.ref (ad 0), .int (iI n)]) ++ List.replicate (2 - (lg_sl ([.ref (ad 0), .int (iI n)])).length) Slot.unset).toArray = ls at hl ⊢
  have hl : lv_has ls 2 [(0, .ref (ad 0)), (1, .int (iI n))] := hl
  have hF2 : ∀ w ∈ wsX20, w ∈ wsX2_cropAt := by decide +kernel
  have lk37 := hts (.classLink RX2 37 nIO) (by decide +kernel)
  have liIO := hts (.initialized nIO) (by decide +kernel)
  have lf11 := hts (.fieldLink RX2 11 "HarvestLender" "crops" "[LHarvestLender$Crop;") (by decide +kernel)
  refine lv_iload_n hx hb dX2_cropAt_0 rfl (lv_at hl 1 rfl) ?_
  refine k_if_lt (tgt := 9) hx hb dX2_cropAt_1 (by decide) (by omega) (fun c_1 => ?_) (fun c_1 => ?_)
  · exact x_thr (text := "no such crop") hfl hx hb hown fitIO nUp_fit lk37 liIO (by decide) (fun w h => hts w (by unfold wsX2_cropAt; exact List.mem_cons_of_mem _ (List.mem_append_right _ h))) xbIO xgIO hno hlocks hK hX hP hS (hl.1.trans hml.symm) (by rw [show cCrop n = 1 by (simp [cCrop, cSeq, c_1] <;> omega)]; exact xN1) dX2_cropAt_9 dX2_cropAt_12 dX2_cropAt_13 dX2_cropAt_15 dX2_cropAt_18 (Nat.le_of_ble_eq_true rfl) (Nat.le_of_ble_eq_true rfl) (Nat.le_of_ble_eq_true rfl) (Nat.le_of_ble_eq_true rfl) (Nat.le_of_ble_eq_true rfl) (Nat.le_of_ble_eq_true rfl)
  · refine lv_iload_n hx hb dX2_cropAt_4 rfl (lv_at hl 1 rfl) ?_
    refine k_iconst hx hb dX2_cropAt_5 ?_
    refine k_icmp_lt (tgt := 19) hx hb dX2_cropAt_6 (by decide) (by omega) (by decide) (fun c_2 => ?_) (fun c_2 => ?_)
    · refine lv_aload_n hx hb dX2_cropAt_19 rfl (lv_at hl 0 rfl) ?_
      refine k_gH (v := .ref (ad 1)) hx hb hts hown hF2 hK hP 0 (by decide) lf11 dX2_cropAt_20 rfl rfl ?_
      refine lv_iload_n hx hb dX2_cropAt_23 rfl (lv_at hl 1 rfl) ?_
      refine k_cld (x := n) hx hb hK hP (by omega) (by omega) dX2_cropAt_24 ?_
      have e0 : cCrop n = 0 := by (simp [cCrop, cSeq, c_1, c_2] <;> omega)
      exact x_aret hx hb hr hlocks hK hP hS e0 dX2_cropAt_25 (Nat.le_of_ble_eq_true rfl) (Nat.le_of_ble_eq_true rfl)
    · exact x_thr (text := "no such crop") hfl hx hb hown fitIO nUp_fit lk37 liIO (by decide) (fun w h => hts w (by unfold wsX2_cropAt; exact List.mem_cons_of_mem _ (List.mem_append_right _ h))) xbIO xgIO hno hlocks hK hX hP hS (hl.1.trans hml.symm) (by rw [show cCrop n = 1 by (simp [cCrop, cSeq, c_1, c_2] <;> omega)]; exact xN1) dX2_cropAt_9 dX2_cropAt_12 dX2_cropAt_13 dX2_cropAt_15 dX2_cropAt_18 (Nat.le_of_ble_eq_true rfl) (Nat.le_of_ble_eq_true rfl) (Nat.le_of_ble_eq_true rfl) (Nat.le_of_ble_eq_true rfl) (Nat.le_of_ble_eq_true rfl) (Nat.le_of_ble_eq_true rfl)
set_option maxHeartbeats 4000000 in
set_option maxRecDepth 100000 in
theorem x_farmerAt (l : Launch) (hfl : l.stackTraces = false) (G : va_G) (ad : Nat → Nat) (cy : Nat → ClassId) (hI : cI ad) (σ : Sg) (hc : 0 ≤ σ 0 2 ∧ σ 0 2 ≤ 8) (n : Int) (hn : nB n) : xMq l yX2_farmerAt wsX2_farmerAt ({ frames := 6, cells := 1, slots := 6, locals := 84 } : Room) G ad cy [.ref (ad 0), .int (iI n)] σ (cFarm σ n) (ad (9 + n.toNat)) σ 1 := by
  intro sz
  refine vx_ofW (cc := cX2_farmerAt) (maxL := 2) (ret := (some (.object "HarvestLender$Farmer"))) (by decide) rfl ?_
  intro p e s m args below meth cd s₁ B hml hno hv
  obtain ⟨rfl, hsz, hP, hK, hX⟩ := hv
  have hx := B.exec
  have hb := B.bytes
  have hr := B.returns
  have hts := atoms_spec (ws := wsX2_farmerAt) B.pre
  have hown : s.vm.findClass RX2 = some m.cls := findClass_of_methodNamed B.named
  have hlocks := B.notSynchronized
  subst hsz
  have hS : va_S (cA ad s.heap.size) s.heap s.heap [] := va_S.rf
  have hA : ∀ q, s.heap.size ≤ q → cA ad s.heap.size q := fun _ h => Or.inr h
  have hAc : ∀ j, j < 33 → cA ad s.heap.size (ad j) := fun j h => Or.inl ⟨j, h, rfl⟩
  have hl := lv_entry ([.ref (ad 0), .int (iI n)]) (n := 2) (Nat.le_of_ble_eq_true rfl)
  rw [lg_entry_eq]
  generalize (lg_sl ([.ref (ad 0), .int (iI n)]) ++ List.replicate (2 - (lg_sl ([.ref (ad 0), .int (iI n)])).length) Slot.unset).toArray = ls at hl ⊢
  have hl : lv_has ls 2 [(0, .ref (ad 0)), (1, .int (iI n))] := hl
  have hF2 : ∀ w ∈ wsX20, w ∈ wsX2_farmerAt := by decide +kernel
  have lk37 := hts (.classLink RX2 37 nIO) (by decide +kernel)
  have liIO := hts (.initialized nIO) (by decide +kernel)
  have lf21 := hts (.fieldLink RX2 21 "HarvestLender" "count" "I") (by decide +kernel)
  have lf17 := hts (.fieldLink RX2 17 "HarvestLender" "rows" "[LHarvestLender$Farmer;") (by decide +kernel)
  refine lv_iload_n hx hb dX2_farmerAt_0 rfl (lv_at hl 1 rfl) ?_
  refine k_if_lt (tgt := 12) hx hb dX2_farmerAt_1 (by decide) (by omega) (fun c_1 => ?_) (fun c_1 => ?_)
  · exact x_thr (text := "no such farmer") hfl hx hb hown fitIO nUp_fit lk37 liIO (by decide) (fun w h => hts w (by unfold wsX2_farmerAt; exact List.mem_cons_of_mem _ (List.mem_append_right _ h))) xbIO xgIO hno hlocks hK hX hP hS (hl.1.trans hml.symm) (by rw [show cFarm σ n = 1 by (simp [cFarm, cSeq, c_1] <;> omega)]; exact xN1) dX2_farmerAt_12 dX2_farmerAt_15 dX2_farmerAt_16 dX2_farmerAt_18 dX2_farmerAt_21 (Nat.le_of_ble_eq_true rfl) (Nat.le_of_ble_eq_true rfl) (Nat.le_of_ble_eq_true rfl) (Nat.le_of_ble_eq_true rfl) (Nat.le_of_ble_eq_true rfl) (Nat.le_of_ble_eq_true rfl)
  · refine lv_iload_n hx hb dX2_farmerAt_4 rfl (lv_at hl 1 rfl) ?_
    refine lv_aload_n hx hb dX2_farmerAt_5 rfl (lv_at hl 0 rfl) ?_
    refine k_gH (v := .int (iI (σ 0 2))) hx hb hts hown hF2 hK hP 2 (by decide) lf21 dX2_farmerAt_6 rfl rfl ?_
    refine k_icmp_lt (tgt := 22) hx hb dX2_farmerAt_9 (by decide) (by omega) (by omega) (fun c_2 => ?_) (fun c_2 => ?_)
    · refine lv_aload_n hx hb dX2_farmerAt_22 rfl (lv_at hl 0 rfl) ?_
      refine k_gH (v := .ref (ad 2)) hx hb hts hown hF2 hK hP 1 (by decide) lf17 dX2_farmerAt_23 rfl rfl ?_
      refine lv_iload_n hx hb dX2_farmerAt_26 rfl (lv_at hl 1 rfl) ?_
      refine k_fld (x := n) hx hb hK hP (by omega) (by omega) dX2_farmerAt_27 ?_
      have e0 : cFarm σ n = 0 := by (simp [cFarm, cSeq, c_1, c_2] <;> omega)
      exact x_aret hx hb hr hlocks hK hP hS e0 dX2_farmerAt_28 (Nat.le_of_ble_eq_true rfl) (Nat.le_of_ble_eq_true rfl)
    · exact x_thr (text := "no such farmer") hfl hx hb hown fitIO nUp_fit lk37 liIO (by decide) (fun w h => hts w (by unfold wsX2_farmerAt; exact List.mem_cons_of_mem _ (List.mem_append_right _ h))) xbIO xgIO hno hlocks hK hX hP hS (hl.1.trans hml.symm) (by rw [show cFarm σ n = 1 by (simp [cFarm, cSeq, c_1, c_2] <;> omega)]; exact xN1) dX2_farmerAt_12 dX2_farmerAt_15 dX2_farmerAt_16 dX2_farmerAt_18 dX2_farmerAt_21 (Nat.le_of_ble_eq_true rfl) (Nat.le_of_ble_eq_true rfl) (Nat.le_of_ble_eq_true rfl) (Nat.le_of_ble_eq_true rfl) (Nat.le_of_ble_eq_true rfl) (Nat.le_of_ble_eq_true rfl)
set_option maxHeartbeats 4000000 in
set_option maxRecDepth 100000 in
theorem x_range (l : Launch) (hfl : l.stackTraces = false) (G : va_G) (ad : Nat → Nat) (cy : Nat → ClassId) (hI : cI ad) (σ : Sg) (v a b : Int) (hv : nB v) (ha : nB a) (hb : nB b) : xMv l yX2_requireRange wsX2_requireRange ({ frames := 6, cells := 1, slots := 6, locals := 84 } : Room) G ad cy [.int (iI v), .int (iI a), .int (iI b)] σ (cRange v a b) σ 1 := by
  intro sz
  refine vx_ofW (cc := cX2_requireRange) (maxL := 3) (ret := none) (by decide) rfl ?_
  intro p e s m args below meth cd s₁ B hml hno hv
  obtain ⟨rfl, hsz, hP, hK, hX⟩ := hv
  have hx := B.exec
  have hb := B.bytes
  have hr := B.returns
  have hts := atoms_spec (ws := wsX2_requireRange) B.pre
  have hown : s.vm.findClass RX2 = some m.cls := findClass_of_methodNamed B.named
  have hlocks := B.notSynchronized
  subst hsz
  have hS : va_S (cA ad s.heap.size) s.heap s.heap [] := va_S.rf
  have hA : ∀ q, s.heap.size ≤ q → cA ad s.heap.size q := fun _ h => Or.inr h
  have hAc : ∀ j, j < 33 → cA ad s.heap.size (ad j) := fun j h => Or.inl ⟨j, h, rfl⟩
  have hl := lv_entry ([.int (iI v), .int (iI a), .int (iI b)]) (n := 3) (Nat.le_of_ble_eq_true rfl)
  rw [lg_entry_eq]
  generalize (lg_sl ([.int (iI v), .int (iI a), .int (iI b)]) ++ List.replicate (3 - (lg_sl ([.int (iI v), .int (iI a), .int (iI b)])).length) Slot.unset).toArray = ls at hl ⊢
  have hl : lv_has ls 3 [(0, .int (iI v)), (1, .int (iI a)), (2, .int (iI b))] := hl
  have lk175 := hts (.classLink RX2 175 nIA) (by decide +kernel)
  have liIA := hts (.initialized nIA) (by decide +kernel)
  refine lv_iload_n hx hb dX2_requireRange_0 rfl (lv_at hl 0 rfl) ?_
  refine lv_iload_n hx hb dX2_requireRange_1 rfl (lv_at hl 1 rfl) ?_
  refine k_icmp_lt (tgt := 10) hx hb dX2_requireRange_2 (by decide) (by omega) (by omega) (fun c_1 => ?_) (fun c_1 => ?_)
  · exact x_thr (text := "out of range") hfl hx hb hown fitIA nUp_fit lk175 liIA (by decide) (fun w h => hts w (by unfold wsX2_requireRange; exact List.mem_cons_of_mem _ (List.mem_append_right _ h))) xbIA xgIA hno hlocks hK hX hP hS (hl.1.trans hml.symm) (by rw [show cRange v a b = 2 by (simp [cRange, cSeq, c_1] <;> omega)]; exact xN2) dX2_requireRange_10 dX2_requireRange_13 dX2_requireRange_14 dX2_requireRange_16 dX2_requireRange_19 (Nat.le_of_ble_eq_true rfl) (Nat.le_of_ble_eq_true rfl) (Nat.le_of_ble_eq_true rfl) (Nat.le_of_ble_eq_true rfl) (Nat.le_of_ble_eq_true rfl) (Nat.le_of_ble_eq_true rfl)
  · refine lv_iload_n hx hb dX2_requireRange_5 rfl (lv_at hl 0 rfl) ?_
    refine lv_iload_n hx hb dX2_requireRange_6 rfl (lv_at hl 2 rfl) ?_
    refine k_icmp_le (tgt := 20) hx hb dX2_requireRange_7 (by decide) (by omega) (by omega) (fun c_2 => ?_) (fun c_2 => ?_)
    · have e0 : cRange v a b = 0 := by (simp [cRange, cSeq, c_1, c_2] <;> omega)
      exact x_vret hx hb hr hlocks hK hP hS e0 dX2_requireRange_20 (Nat.le_of_ble_eq_true rfl) (Nat.le_of_ble_eq_true rfl)
    · exact x_thr (text := "out of range") hfl hx hb hown fitIA nUp_fit lk175 liIA (by decide) (fun w h => hts w (by unfold wsX2_requireRange; exact List.mem_cons_of_mem _ (List.mem_append_right _ h))) xbIA xgIA hno hlocks hK hX hP hS (hl.1.trans hml.symm) (by rw [show cRange v a b = 2 by (simp [cRange, cSeq, c_1, c_2] <;> omega)]; exact xN2) dX2_requireRange_10 dX2_requireRange_13 dX2_requireRange_14 dX2_requireRange_16 dX2_requireRange_19 (Nat.le_of_ble_eq_true rfl) (Nat.le_of_ble_eq_true rfl) (Nat.le_of_ble_eq_true rfl) (Nat.le_of_ble_eq_true rfl) (Nat.le_of_ble_eq_true rfl) (Nat.le_of_ble_eq_true rfl)
set_option maxHeartbeats 4000000 in
set_option maxRecDepth 100000 in
theorem x_state (l : Launch) (hfl : l.stackTraces = false) (G : va_G) (ad : Nat → Nat) (cy : Nat → ClassId) (hI : cI ad) (σ : Sg) (b : Int) (hb : nB b) : xMv l yX2_requireState wsX2_requireState ({ frames := 6, cells := 1, slots := 6, locals := 84 } : Room) G ad cy [.int (iI b)] σ (cState b) σ 1 := by
  intro sz
  refine vx_ofW (cc := cX2_requireState) (maxL := 1) (ret := none) (by decide) rfl ?_
  intro p e s m args below meth cd s₁ B hml hno hv
  obtain ⟨rfl, hsz, hP, hK, hX⟩ := hv
  have hx := B.exec
  have hb := B.bytes
  have hr := B.returns
  have hts := atoms_spec (ws := wsX2_requireState) B.pre
  have hown : s.vm.findClass RX2 = some m.cls := findClass_of_methodNamed B.named
  have hlocks := B.notSynchronized
  subst hsz
  have hS : va_S (cA ad s.heap.size) s.heap s.heap [] := va_S.rf
  have hA : ∀ q, s.heap.size ≤ q → cA ad s.heap.size q := fun _ h => Or.inr h
  have hAc : ∀ j, j < 33 → cA ad s.heap.size (ad j) := fun j h => Or.inl ⟨j, h, rfl⟩
  have hl := lv_entry ([.int (iI b)]) (n := 1) (Nat.le_of_ble_eq_true rfl)
  rw [lg_entry_eq]
  generalize (lg_sl ([.int (iI b)]) ++ List.replicate (1 - (lg_sl ([.int (iI b)])).length) Slot.unset).toArray = ls at hl ⊢
  have hl : lv_has ls 1 [(0, .int (iI b))] := hl
  have lk180 := hts (.classLink RX2 180 nIS) (by decide +kernel)
  have liIS := hts (.initialized nIS) (by decide +kernel)
  refine lv_iload_n hx hb dX2_requireState_0 rfl (lv_at hl 0 rfl) ?_
  refine k_if_ne (tgt := 14) hx hb dX2_requireState_1 (by decide) (by omega) (fun c_1 => ?_) (fun c_1 => ?_)
  · have e0 : cState b = 0 := by (simp [cState, cSeq, c_1] <;> omega)
    exact x_vret hx hb hr hlocks hK hP hS e0 dX2_requireState_14 (Nat.le_of_ble_eq_true rfl) (Nat.le_of_ble_eq_true rfl)
  · exact x_thr (text := "not allowed now") hfl hx hb hown fitIS nUp_fit lk180 liIS (by decide) (fun w h => hts w (by unfold wsX2_requireState; exact List.mem_cons_of_mem _ (List.mem_append_right _ h))) xbIS xgIS hno hlocks hK hX hP hS (hl.1.trans hml.symm) (by rw [show cState b = 3 by (simp [cState, cSeq, c_1] <;> omega)]; exact xN3) dX2_requireState_4 dX2_requireState_7 dX2_requireState_8 dX2_requireState_10 dX2_requireState_13 (Nat.le_of_ble_eq_true rfl) (Nat.le_of_ble_eq_true rfl) (Nat.le_of_ble_eq_true rfl) (Nat.le_of_ble_eq_true rfl) (Nat.le_of_ble_eq_true rfl) (Nat.le_of_ble_eq_true rfl)
