set_option maxHeartbeats 4000000 in
set_option maxRecDepth 100000 in
theorem m_noFarmer (l : Launch) (G : va_G) (ad : Nat → Nat) (cy : Nat → ClassId) (hI : mI ad) (σ : Sg) (f : Int) (hf : nB f) (hcnt : 0 ≤ σ 0 6 ∧ σ 0 6 ≤ 8) : mMi l yX3_noFarmer wsX3_noFarmer ({ frames := 2, cells := 0, slots := 0, locals := 43 } : Room) G ad cy [.ref (ad 0), .int (iI f)] σ (gNz (qFarm σ f)) (up σ 0 0 (qFarm σ f)) := by
  intro sz
  refine Met.ofW (cc := cX3_noFarmer) (maxL := 2) (ret := (some .boolean)) (by decide) rfl ?_
  intro p e s m args below meth cd s₁ B hml hv
  obtain ⟨rfl, hsz, hP, hK⟩ := hv
  have hx := B.exec
  have hb := B.bytes
  have hr := B.returns
  have hts := atoms_spec (ws := wsX3_noFarmer) B.pre
  have hown : s.vm.findClass RX3 = some m.cls := findClass_of_methodNamed B.named
  have hlocks := B.notSynchronized
  subst hsz
  have hS : va_S (mA ad s.heap.size) s.heap s.heap [] := va_S.rf
  have hA : ∀ q, s.heap.size ≤ q → mA ad s.heap.size q := fun _ h => Or.inr h
  have hAc : ∀ j, j < 21 → mA ad s.heap.size (ad j) := fun j h => Or.inl ⟨j, h, rfl⟩
  have hl := lv_entry ([.ref (ad 0), .int (iI f)]) (n := 2) (Nat.le_of_ble_eq_true rfl)
  rw [lg_entry_eq]
  generalize (lg_sl ([.ref (ad 0), .int (iI f)]) ++ List.replicate (2 - (lg_sl ([.ref (ad 0), .int (iI f)])).length) Slot.unset).toArray = ls at hl ⊢
  have hl : lv_has ls 2 [(0, .ref (ad 0)), (1, .int (iI f))] := hl
  refine lv_aload_n hx hb dX3_noFarmer_0 rfl (lv_at hl 0 rfl) ?_
  refine lv_aload_n hx hb dX3_noFarmer_1 rfl (lv_at hl 0 rfl) ?_
  refine lv_iload_n hx hb dX3_noFarmer_2 rfl (lv_at hl 1 rfl) ?_
  refine k_mci (As := [.int (iI f)]) (rest := [.ref (ad 0)]) ⟨hx, hb, hml, hown, hts⟩ (m_isFarmer l G ad cy hI σ f (by omega) hcnt) (cwV 1 hts gX3_noFarmer_X3_isFarmer rfl rfl rfl (by decide +kernel) ⟨Nat.le_of_ble_eq_true rfl, Nat.le_of_ble_eq_true rfl⟩) (mRecv hK hP) hAc hA hK hP hS rfl hl.1 rfl (Nat.le_of_ble_eq_true rfl) dX3_noFarmer_3 ⟨Nat.zero_le _, Nat.zero_le _⟩ (fun H locs hP hS => ?_)
  refine k_if_eq (tgt := 13) hx hb dX3_noFarmer_6 (by decide) (gIn_nB _ _ _) (fun c_1 => ?_) (fun c_1 => ?_)
  · have d_1 := c_1
    rw [gIn_0] at d_1
    refine k_iconst hx hb dX3_noFarmer_13 ?_
    refine k_mci (As := [.int (iI 1)]) (rest := []) ⟨hx, hb, hml, hown, hts⟩ (m_refused l G ad cy hI σ 1 (by decide)) (cwV 1 hts gX3_noFarmer_X3_refused rfl rfl rfl (by decide +kernel) ⟨Nat.le_of_ble_eq_true rfl, Nat.le_of_ble_eq_true rfl⟩) (mRecv hK hP) hAc hA hK hP hS rfl hl.1 rfl (Nat.le_of_ble_eq_true rfl) dX3_noFarmer_14 ⟨Nat.zero_le _, Nat.zero_le _⟩ (fun H locs hP hS => ?_)
    have eF : up σ 0 0 1 = up σ 0 0 (qFarm σ f) := by first | (rw [show qFarm σ f = 0 from (qFarm_0 _ _).mpr (by omega)]) | (rw [show qFarm σ f = 1 from qFarm_1 (fun h => by have := (qFarm_0 _ _).mp h; omega)])
    rw [eF] at hP
    have eR : gNz 1 = gNz (qFarm σ f) := by first | (rw [show qFarm σ f = 0 from (qFarm_0 _ _).mpr (by omega)]) | (rw [show qFarm σ f = 1 from qFarm_1 (fun h => by have := (qFarm_0 _ _).mp h; omega)])
    exact W.zret hx hb hr (z01 _ (gNz_01 _)) (fun t ht hW => ⟨⟨_, _, rfl, ⟨congrArg iI eR, rfl⟩, by rw [ht]; exact hP, va_K.moved hW.alike hK⟩, hS.F ht⟩) hS.2.2 dX3_noFarmer_17
  · have d_1 := c_1
    rw [gIn_0] at d_1
    refine k_iconst hx hb dX3_noFarmer_9 ?_
    refine lv_goto (tgt := 14) hx hb dX3_noFarmer_10 (by decide) ?_
    refine k_mci (As := [.int (iI 0)]) (rest := []) ⟨hx, hb, hml, hown, hts⟩ (m_refused l G ad cy hI σ 0 (by decide)) (cwV 1 hts gX3_noFarmer_X3_refused rfl rfl rfl (by decide +kernel) ⟨Nat.le_of_ble_eq_true rfl, Nat.le_of_ble_eq_true rfl⟩) (mRecv hK hP) hAc hA hK hP hS rfl hl.1 rfl (Nat.le_of_ble_eq_true rfl) dX3_noFarmer_14 ⟨Nat.zero_le _, Nat.zero_le _⟩ (fun H locs hP hS => ?_)
    have eF : up σ 0 0 0 = up σ 0 0 (qFarm σ f) := by first | (rw [show qFarm σ f = 0 from (qFarm_0 _ _).mpr (by omega)]) | (rw [show qFarm σ f = 1 from qFarm_1 (fun h => by have := (qFarm_0 _ _).mp h; omega)])
    rw [eF] at hP
    have eR : gNz 0 = gNz (qFarm σ f) := by first | (rw [show qFarm σ f = 0 from (qFarm_0 _ _).mpr (by omega)]) | (rw [show qFarm σ f = 1 from qFarm_1 (fun h => by have := (qFarm_0 _ _).mp h; omega)])
    exact W.zret hx hb hr (z01 _ (gNz_01 _)) (fun t ht hW => ⟨⟨_, _, rfl, ⟨congrArg iI eR, rfl⟩, by rw [ht]; exact hP, va_K.moved hW.alike hK⟩, hS.F ht⟩) hS.2.2 dX3_noFarmer_17
set_option maxHeartbeats 4000000 in
set_option maxRecDepth 100000 in
theorem m_debt (l : Launch) (G : va_G) (ad : Nat → Nat) (cy : Nat → ClassId) (hI : mI ad) (σ : Sg) (f : Int) (hf : nB f) (hB : mBd σ) : mMi l yX3_debt wsX3_debt ({ frames := 3, cells := 0, slots := 0, locals := 64 } : Room) G ad cy [.ref (ad 0), .int (iI f)] σ (rOf (qFarm σ f) (σ 6 f.toNat)) (up σ 0 0 (qFarm σ f)) := by
  intro sz
  refine Met.ofW (cc := cX3_debt) (maxL := 2) (ret := (some .int)) (by decide) rfl ?_
  intro p e s m args below meth cd s₁ B hml hv
  obtain ⟨rfl, hsz, hP, hK⟩ := hv
  have hx := B.exec
  have hb := B.bytes
  have hr := B.returns
  have hts := atoms_spec (ws := wsX3_debt) B.pre
  have hown : s.vm.findClass RX3 = some m.cls := findClass_of_methodNamed B.named
  have hlocks := B.notSynchronized
  subst hsz
  have hS : va_S (mA ad s.heap.size) s.heap s.heap [] := va_S.rf
  have hA : ∀ q, s.heap.size ≤ q → mA ad s.heap.size q := fun _ h => Or.inr h
  have hAc : ∀ j, j < 21 → mA ad s.heap.size (ad j) := fun j h => Or.inl ⟨j, h, rfl⟩
  have hl := lv_entry ([.ref (ad 0), .int (iI f)]) (n := 2) (Nat.le_of_ble_eq_true rfl)
  rw [lg_entry_eq]
  generalize (lg_sl ([.ref (ad 0), .int (iI f)]) ++ List.replicate (2 - (lg_sl ([.ref (ad 0), .int (iI f)])).length) Slot.unset).toArray = ls at hl ⊢
  have hl : lv_has ls 2 [(0, .ref (ad 0)), (1, .int (iI f))] := hl
  have hF3 : ∀ w ∈ wsX30, w ∈ wsX3_debt := by decide +kernel
  have lf25 := hts (.fieldLink RX3 25 "HarvestLenderModel" "debts" "[I") (by decide +kernel)
  have hcnt := hB.1.1
  have hstg := hB.1.2.2
  have hsea := hB.1.2.1
  refine lv_aload_n hx hb dX3_debt_0 rfl (lv_at hl 0 rfl) ?_
  refine lv_iload_n hx hb dX3_debt_1 rfl (lv_at hl 1 rfl) ?_
  refine k_mci (As := [.int (iI f)]) (rest := []) ⟨hx, hb, hml, hown, hts⟩ (m_noFarmer l G ad cy hI σ f (by omega) hcnt) (cwV 1 hts gX3_debt_X3_noFarmer rfl rfl rfl (by decide +kernel) ⟨Nat.le_of_ble_eq_true rfl, Nat.le_of_ble_eq_true rfl⟩) (mRecv hK hP) hAc hA hK hP hS rfl hl.1 rfl (Nat.le_of_ble_eq_true rfl) dX3_debt_2 ⟨Nat.zero_le _, Nat.zero_le _⟩ (fun H locs hP hS => ?_)
  refine k_if_eq (tgt := 12) hx hb dX3_debt_5 (by decide) (gNz_nB _) (fun c_1 => ?_) (fun c_1 => ?_)
  · have e_1 := (gNz_0 _).mp c_1
    have d_1 := (qFarm_0 _ _).mp e_1
    obtain ⟨a5, a6, a7, a9, a10, a11, a13, a14, a15, a16, a17⟩ := hB.2.2 f.toNat (by omega)
    obtain ⟨b2, b3⟩ := hB.2.1.1 (σ 7 f.toNat).toNat (by omega)
    have gl := gLimit_b hB (f := f) (by omega) (by omega)
    refine lv_aload_n hx hb dX3_debt_12 rfl (lv_at hl 0 rfl) ?_
    refine k_mg (v := .ref (ad 6)) hx hb hts hown hF3 hK hP 9 (by decide) lf25 dX3_debt_13 rfl rfl ?_
    refine lv_iload_n hx hb dX3_debt_16 rfl (lv_at hl 1 rfl) ?_
    refine k_mld (q := 6) (N := 8) (x := f) hx hb hK hP (by decide) rfl (by omega) (by omega) (by decide) dX3_debt_17 ?_
    rw [show (up σ 0 0 (qFarm σ f)) 6 (f).toNat = σ 6 f.toNat by simp [up]]
    have eR : σ 6 f.toNat = rOf (qFarm σ f) (σ 6 f.toNat) := by first | (rw [rOf_0 (by assumption)]) | (rw [rOf_n (k := 1) (by assumption) (by decide)])
    exact W.iret hx hb hr (fun t ht hW => ⟨⟨_, _, rfl, ⟨congrArg iI eR, rfl⟩, by rw [ht]; exact hP, va_K.moved hW.alike hK⟩, hS.F ht⟩) hS.2.2 dX3_debt_18
  · have e_1 := qFarm_1 (fun h => c_1 ((gNz_0 _).mpr h))
    refine k_iconst hx hb dX3_debt_8 ?_
    refine lv_goto (tgt := 18) hx hb dX3_debt_9 (by decide) ?_
    have eR : 0 = rOf (qFarm σ f) (σ 6 f.toNat) := by first | (rw [rOf_0 (by assumption)]) | (rw [rOf_n (k := 1) (by assumption) (by decide)])
    exact W.iret hx hb hr (fun t ht hW => ⟨⟨_, _, rfl, ⟨congrArg iI eR, rfl⟩, by rw [ht]; exact hP, va_K.moved hW.alike hK⟩, hS.F ht⟩) hS.2.2 dX3_debt_18
set_option maxHeartbeats 4000000 in
set_option maxRecDepth 100000 in
theorem m_instalments (l : Launch) (G : va_G) (ad : Nat → Nat) (cy : Nat → ClassId) (hI : mI ad) (σ : Sg) (f : Int) (hf : nB f) (hB : mBd σ) : mMi l yX3_instalments wsX3_instalments ({ frames := 3, cells := 0, slots := 0, locals := 64 } : Room) G ad cy [.ref (ad 0), .int (iI f)] σ (rOf (qFarm σ f) (σ 11 f.toNat)) (up σ 0 0 (qFarm σ f)) := by
  intro sz
  refine Met.ofW (cc := cX3_instalments) (maxL := 2) (ret := (some .int)) (by decide) rfl ?_
  intro p e s m args below meth cd s₁ B hml hv
  obtain ⟨rfl, hsz, hP, hK⟩ := hv
  have hx := B.exec
  have hb := B.bytes
  have hr := B.returns
  have hts := atoms_spec (ws := wsX3_instalments) B.pre
  have hown : s.vm.findClass RX3 = some m.cls := findClass_of_methodNamed B.named
  have hlocks := B.notSynchronized
  subst hsz
  have hS : va_S (mA ad s.heap.size) s.heap s.heap [] := va_S.rf
  have hA : ∀ q, s.heap.size ≤ q → mA ad s.heap.size q := fun _ h => Or.inr h
  have hAc : ∀ j, j < 21 → mA ad s.heap.size (ad j) := fun j h => Or.inl ⟨j, h, rfl⟩
  have hl := lv_entry ([.ref (ad 0), .int (iI f)]) (n := 2) (Nat.le_of_ble_eq_true rfl)
  rw [lg_entry_eq]
  generalize (lg_sl ([.ref (ad 0), .int (iI f)]) ++ List.replicate (2 - (lg_sl ([.ref (ad 0), .int (iI f)])).length) Slot.unset).toArray = ls at hl ⊢
  have hl : lv_has ls 2 [(0, .ref (ad 0)), (1, .int (iI f))] := hl
  have hF3 : ∀ w ∈ wsX30, w ∈ wsX3_instalments := by decide +kernel
  have lf40 := hts (.fieldLink RX3 40 "HarvestLenderModel" "rows" "[I") (by decide +kernel)
  have hcnt := hB.1.1
  have hstg := hB.1.2.2
  have hsea := hB.1.2.1
  refine lv_aload_n hx hb dX3_instalments_0 rfl (lv_at hl 0 rfl) ?_
  refine lv_iload_n hx hb dX3_instalments_1 rfl (lv_at hl 1 rfl) ?_
  refine k_mci (As := [.int (iI f)]) (rest := []) ⟨hx, hb, hml, hown, hts⟩ (m_noFarmer l G ad cy hI σ f (by omega) hcnt) (cwV 1 hts gX3_instalments_X3_noFarmer rfl rfl rfl (by decide +kernel) ⟨Nat.le_of_ble_eq_true rfl, Nat.le_of_ble_eq_true rfl⟩) (mRecv hK hP) hAc hA hK hP hS rfl hl.1 rfl (Nat.le_of_ble_eq_true rfl) dX3_instalments_2 ⟨Nat.zero_le _, Nat.zero_le _⟩ (fun H locs hP hS => ?_)
  refine k_if_eq (tgt := 12) hx hb dX3_instalments_5 (by decide) (gNz_nB _) (fun c_1 => ?_) (fun c_1 => ?_)
  · have e_1 := (gNz_0 _).mp c_1
    have d_1 := (qFarm_0 _ _).mp e_1
    obtain ⟨a5, a6, a7, a9, a10, a11, a13, a14, a15, a16, a17⟩ := hB.2.2 f.toNat (by omega)
    obtain ⟨b2, b3⟩ := hB.2.1.1 (σ 7 f.toNat).toNat (by omega)
    have gl := gLimit_b hB (f := f) (by omega) (by omega)
    refine lv_aload_n hx hb dX3_instalments_12 rfl (lv_at hl 0 rfl) ?_
    refine k_mg (v := .ref (ad 11)) hx hb hts hown hF3 hK hP 14 (by decide) lf40 dX3_instalments_13 rfl rfl ?_
    refine lv_iload_n hx hb dX3_instalments_16 rfl (lv_at hl 1 rfl) ?_
    refine k_mld (q := 11) (N := 8) (x := f) hx hb hK hP (by decide) rfl (by omega) (by omega) (by decide) dX3_instalments_17 ?_
    rw [show (up σ 0 0 (qFarm σ f)) 11 (f).toNat = σ 11 f.toNat by simp [up]]
    have eR : σ 11 f.toNat = rOf (qFarm σ f) (σ 11 f.toNat) := by first | (rw [rOf_0 (by assumption)]) | (rw [rOf_n (k := 1) (by assumption) (by decide)])
    exact W.iret hx hb hr (fun t ht hW => ⟨⟨_, _, rfl, ⟨congrArg iI eR, rfl⟩, by rw [ht]; exact hP, va_K.moved hW.alike hK⟩, hS.F ht⟩) hS.2.2 dX3_instalments_18
  · have e_1 := qFarm_1 (fun h => c_1 ((gNz_0 _).mpr h))
    refine k_iconst hx hb dX3_instalments_8 ?_
    refine lv_goto (tgt := 18) hx hb dX3_instalments_9 (by decide) ?_
    have eR : 0 = rOf (qFarm σ f) (σ 11 f.toNat) := by first | (rw [rOf_0 (by assumption)]) | (rw [rOf_n (k := 1) (by assumption) (by decide)])
    exact W.iret hx hb hr (fun t ht hW => ⟨⟨_, _, rfl, ⟨congrArg iI eR, rfl⟩, by rw [ht]; exact hP, va_K.moved hW.alike hK⟩, hS.F ht⟩) hS.2.2 dX3_instalments_18
set_option maxHeartbeats 4000000 in
set_option maxRecDepth 100000 in
theorem m_purse (l : Launch) (G : va_G) (ad : Nat → Nat) (cy : Nat → ClassId) (hI : mI ad) (σ : Sg) (f : Int) (hf : nB f) (hB : mBd σ) : mMi l yX3_purse wsX3_purse ({ frames := 3, cells := 0, slots := 0, locals := 64 } : Room) G ad cy [.ref (ad 0), .int (iI f)] σ (rOf (qFarm σ f) (σ 5 f.toNat)) (up σ 0 0 (qFarm σ f)) := by
  intro sz
  refine Met.ofW (cc := cX3_purse) (maxL := 2) (ret := (some .int)) (by decide) rfl ?_
  intro p e s m args below meth cd s₁ B hml hv
  obtain ⟨rfl, hsz, hP, hK⟩ := hv
  have hx := B.exec
  have hb := B.bytes
  have hr := B.returns
  have hts := atoms_spec (ws := wsX3_purse) B.pre
  have hown : s.vm.findClass RX3 = some m.cls := findClass_of_methodNamed B.named
  have hlocks := B.notSynchronized
  subst hsz
  have hS : va_S (mA ad s.heap.size) s.heap s.heap [] := va_S.rf
  have hA : ∀ q, s.heap.size ≤ q → mA ad s.heap.size q := fun _ h => Or.inr h
  have hAc : ∀ j, j < 21 → mA ad s.heap.size (ad j) := fun j h => Or.inl ⟨j, h, rfl⟩
  have hl := lv_entry ([.ref (ad 0), .int (iI f)]) (n := 2) (Nat.le_of_ble_eq_true rfl)
  rw [lg_entry_eq]
  generalize (lg_sl ([.ref (ad 0), .int (iI f)]) ++ List.replicate (2 - (lg_sl ([.ref (ad 0), .int (iI f)])).length) Slot.unset).toArray = ls at hl ⊢
  have hl : lv_has ls 2 [(0, .ref (ad 0)), (1, .int (iI f))] := hl
  have hF3 : ∀ w ∈ wsX30, w ∈ wsX3_purse := by decide +kernel
  have lf22 := hts (.fieldLink RX3 22 "HarvestLenderModel" "purses" "[I") (by decide +kernel)
  have hcnt := hB.1.1
  have hstg := hB.1.2.2
  have hsea := hB.1.2.1
  refine lv_aload_n hx hb dX3_purse_0 rfl (lv_at hl 0 rfl) ?_
  refine lv_iload_n hx hb dX3_purse_1 rfl (lv_at hl 1 rfl) ?_
  refine k_mci (As := [.int (iI f)]) (rest := []) ⟨hx, hb, hml, hown, hts⟩ (m_noFarmer l G ad cy hI σ f (by omega) hcnt) (cwV 1 hts gX3_purse_X3_noFarmer rfl rfl rfl (by decide +kernel) ⟨Nat.le_of_ble_eq_true rfl, Nat.le_of_ble_eq_true rfl⟩) (mRecv hK hP) hAc hA hK hP hS rfl hl.1 rfl (Nat.le_of_ble_eq_true rfl) dX3_purse_2 ⟨Nat.zero_le _, Nat.zero_le _⟩ (fun H locs hP hS => ?_)
  refine k_if_eq (tgt := 12) hx hb dX3_purse_5 (by decide) (gNz_nB _) (fun c_1 => ?_) (fun c_1 => ?_)
  · have e_1 := (gNz_0 _).mp c_1
    have d_1 := (qFarm_0 _ _).mp e_1
    obtain ⟨a5, a6, a7, a9, a10, a11, a13, a14, a15, a16, a17⟩ := hB.2.2 f.toNat (by omega)
    obtain ⟨b2, b3⟩ := hB.2.1.1 (σ 7 f.toNat).toNat (by omega)
    have gl := gLimit_b hB (f := f) (by omega) (by omega)
    refine lv_aload_n hx hb dX3_purse_12 rfl (lv_at hl 0 rfl) ?_
    refine k_mg (v := .ref (ad 5)) hx hb hts hown hF3 hK hP 8 (by decide) lf22 dX3_purse_13 rfl rfl ?_
    refine lv_iload_n hx hb dX3_purse_16 rfl (lv_at hl 1 rfl) ?_
    refine k_mld (q := 5) (N := 8) (x := f) hx hb hK hP (by decide) rfl (by omega) (by omega) (by decide) dX3_purse_17 ?_
    rw [show (up σ 0 0 (qFarm σ f)) 5 (f).toNat = σ 5 f.toNat by simp [up]]
    have eR : σ 5 f.toNat = rOf (qFarm σ f) (σ 5 f.toNat) := by first | (rw [rOf_0 (by assumption)]) | (rw [rOf_n (k := 1) (by assumption) (by decide)])
    exact W.iret hx hb hr (fun t ht hW => ⟨⟨_, _, rfl, ⟨congrArg iI eR, rfl⟩, by rw [ht]; exact hP, va_K.moved hW.alike hK⟩, hS.F ht⟩) hS.2.2 dX3_purse_18
  · have e_1 := qFarm_1 (fun h => c_1 ((gNz_0 _).mpr h))
    refine k_iconst hx hb dX3_purse_8 ?_
    refine lv_goto (tgt := 18) hx hb dX3_purse_9 (by decide) ?_
    have eR : 0 = rOf (qFarm σ f) (σ 5 f.toNat) := by first | (rw [rOf_0 (by assumption)]) | (rw [rOf_n (k := 1) (by assumption) (by decide)])
    exact W.iret hx hb hr (fun t ht hW => ⟨⟨_, _, rfl, ⟨congrArg iI eR, rfl⟩, by rw [ht]; exact hP, va_K.moved hW.alike hK⟩, hS.F ht⟩) hS.2.2 dX3_purse_18
set_option maxHeartbeats 4000000 in
set_option maxRecDepth 100000 in
theorem m_called (l : Launch) (G : va_G) (ad : Nat → Nat) (cy : Nat → ClassId) (hI : mI ad) (σ : Sg) (f : Int) (hf : nB f) (hB : mBd σ) : mMi l yX3_called wsX3_called ({ frames := 3, cells := 0, slots := 0, locals := 64 } : Room) G ad cy [.ref (ad 0), .int (iI f)] σ (rOf (qFarm σ f) (σ 18 f.toNat)) (up σ 0 0 (qFarm σ f)) := by
  intro sz
  refine Met.ofW (cc := cX3_called) (maxL := 2) (ret := (some .int)) (by decide) rfl ?_
  intro p e s m args below meth cd s₁ B hml hv
  obtain ⟨rfl, hsz, hP, hK⟩ := hv
  have hx := B.exec
  have hb := B.bytes
  have hr := B.returns
  have hts := atoms_spec (ws := wsX3_called) B.pre
  have hown : s.vm.findClass RX3 = some m.cls := findClass_of_methodNamed B.named
  have hlocks := B.notSynchronized
  subst hsz
  have hS : va_S (mA ad s.heap.size) s.heap s.heap [] := va_S.rf
  have hA : ∀ q, s.heap.size ≤ q → mA ad s.heap.size q := fun _ h => Or.inr h
  have hAc : ∀ j, j < 21 → mA ad s.heap.size (ad j) := fun j h => Or.inl ⟨j, h, rfl⟩
  have hl := lv_entry ([.ref (ad 0), .int (iI f)]) (n := 2) (Nat.le_of_ble_eq_true rfl)
  rw [lg_entry_eq]
  generalize (lg_sl ([.ref (ad 0), .int (iI f)]) ++ List.replicate (2 - (lg_sl ([.ref (ad 0), .int (iI f)])).length) Slot.unset).toArray = ls at hl ⊢
  have hl : lv_has ls 2 [(0, .ref (ad 0)), (1, .int (iI f))] := hl
  have hF3 : ∀ w ∈ wsX30, w ∈ wsX3_called := by decide +kernel
  have lf61 := hts (.fieldLink RX3 61 "HarvestLenderModel" "calls" "[I") (by decide +kernel)
  have hcnt := hB.1.1
  have hstg := hB.1.2.2
  have hsea := hB.1.2.1
  refine lv_aload_n hx hb dX3_called_0 rfl (lv_at hl 0 rfl) ?_
  refine lv_iload_n hx hb dX3_called_1 rfl (lv_at hl 1 rfl) ?_
  refine k_mci (As := [.int (iI f)]) (rest := []) ⟨hx, hb, hml, hown, hts⟩ (m_noFarmer l G ad cy hI σ f (by omega) hcnt) (cwV 1 hts gX3_called_X3_noFarmer rfl rfl rfl (by decide +kernel) ⟨Nat.le_of_ble_eq_true rfl, Nat.le_of_ble_eq_true rfl⟩) (mRecv hK hP) hAc hA hK hP hS rfl hl.1 rfl (Nat.le_of_ble_eq_true rfl) dX3_called_2 ⟨Nat.zero_le _, Nat.zero_le _⟩ (fun H locs hP hS => ?_)
  refine k_if_eq (tgt := 12) hx hb dX3_called_5 (by decide) (gNz_nB _) (fun c_1 => ?_) (fun c_1 => ?_)
  · have e_1 := (gNz_0 _).mp c_1
    have d_1 := (qFarm_0 _ _).mp e_1
    obtain ⟨a5, a6, a7, a9, a10, a11, a13, a14, a15, a16, a17⟩ := hB.2.2 f.toNat (by omega)
    obtain ⟨b2, b3⟩ := hB.2.1.1 (σ 7 f.toNat).toNat (by omega)
    have gl := gLimit_b hB (f := f) (by omega) (by omega)
    refine lv_aload_n hx hb dX3_called_12 rfl (lv_at hl 0 rfl) ?_
    refine k_mg (v := .ref (ad 18)) hx hb hts hown hF3 hK hP 21 (by decide) lf61 dX3_called_13 rfl rfl ?_
    refine lv_iload_n hx hb dX3_called_16 rfl (lv_at hl 1 rfl) ?_
    refine k_mld (q := 18) (N := 8) (x := f) hx hb hK hP (by decide) rfl (by omega) (by omega) (by decide) dX3_called_17 ?_
    rw [show (up σ 0 0 (qFarm σ f)) 18 (f).toNat = σ 18 f.toNat by simp [up]]
    have eR : σ 18 f.toNat = rOf (qFarm σ f) (σ 18 f.toNat) := by first | (rw [rOf_0 (by assumption)]) | (rw [rOf_n (k := 1) (by assumption) (by decide)])
    exact W.iret hx hb hr (fun t ht hW => ⟨⟨_, _, rfl, ⟨congrArg iI eR, rfl⟩, by rw [ht]; exact hP, va_K.moved hW.alike hK⟩, hS.F ht⟩) hS.2.2 dX3_called_18
  · have e_1 := qFarm_1 (fun h => c_1 ((gNz_0 _).mpr h))
    refine k_iconst hx hb dX3_called_8 ?_
    refine lv_goto (tgt := 18) hx hb dX3_called_9 (by decide) ?_
    have eR : 0 = rOf (qFarm σ f) (σ 18 f.toNat) := by first | (rw [rOf_0 (by assumption)]) | (rw [rOf_n (k := 1) (by assumption) (by decide)])
    exact W.iret hx hb hr (fun t ht hW => ⟨⟨_, _, rfl, ⟨congrArg iI eR, rfl⟩, by rw [ht]; exact hP, va_K.moved hW.alike hK⟩, hS.F ht⟩) hS.2.2 dX3_called_18
set_option maxHeartbeats 4000000 in
set_option maxRecDepth 100000 in
theorem m_charged (l : Launch) (G : va_G) (ad : Nat → Nat) (cy : Nat → ClassId) (hI : mI ad) (σ : Sg) (f : Int) (hf : nB f) (hB : mBd σ) : mMi l yX3_charged wsX3_charged ({ frames := 3, cells := 0, slots := 0, locals := 64 } : Room) G ad cy [.ref (ad 0), .int (iI f)] σ (rOf (qFarm σ f) (σ 20 f.toNat)) (up σ 0 0 (qFarm σ f)) := by
  intro sz
  refine Met.ofW (cc := cX3_charged) (maxL := 2) (ret := (some .int)) (by decide) rfl ?_
  intro p e s m args below meth cd s₁ B hml hv
  obtain ⟨rfl, hsz, hP, hK⟩ := hv
  have hx := B.exec
  have hb := B.bytes
  have hr := B.returns
  have hts := atoms_spec (ws := wsX3_charged) B.pre
  have hown : s.vm.findClass RX3 = some m.cls := findClass_of_methodNamed B.named
  have hlocks := B.notSynchronized
  subst hsz
  have hS : va_S (mA ad s.heap.size) s.heap s.heap [] := va_S.rf
  have hA : ∀ q, s.heap.size ≤ q → mA ad s.heap.size q := fun _ h => Or.inr h
  have hAc : ∀ j, j < 21 → mA ad s.heap.size (ad j) := fun j h => Or.inl ⟨j, h, rfl⟩
  have hl := lv_entry ([.ref (ad 0), .int (iI f)]) (n := 2) (Nat.le_of_ble_eq_true rfl)
  rw [lg_entry_eq]
  generalize (lg_sl ([.ref (ad 0), .int (iI f)]) ++ List.replicate (2 - (lg_sl ([.ref (ad 0), .int (iI f)])).length) Slot.unset).toArray = ls at hl ⊢
  have hl : lv_has ls 2 [(0, .ref (ad 0)), (1, .int (iI f))] := hl
  have hF3 : ∀ w ∈ wsX30, w ∈ wsX3_charged := by decide +kernel
  have lf67 := hts (.fieldLink RX3 67 "HarvestLenderModel" "charges" "[I") (by decide +kernel)
  have hcnt := hB.1.1
  have hstg := hB.1.2.2
  have hsea := hB.1.2.1
  refine lv_aload_n hx hb dX3_charged_0 rfl (lv_at hl 0 rfl) ?_
  refine lv_iload_n hx hb dX3_charged_1 rfl (lv_at hl 1 rfl) ?_
  refine k_mci (As := [.int (iI f)]) (rest := []) ⟨hx, hb, hml, hown, hts⟩ (m_noFarmer l G ad cy hI σ f (by omega) hcnt) (cwV 1 hts gX3_charged_X3_noFarmer rfl rfl rfl (by decide +kernel) ⟨Nat.le_of_ble_eq_true rfl, Nat.le_of_ble_eq_true rfl⟩) (mRecv hK hP) hAc hA hK hP hS rfl hl.1 rfl (Nat.le_of_ble_eq_true rfl) dX3_charged_2 ⟨Nat.zero_le _, Nat.zero_le _⟩ (fun H locs hP hS => ?_)
  refine k_if_eq (tgt := 12) hx hb dX3_charged_5 (by decide) (gNz_nB _) (fun c_1 => ?_) (fun c_1 => ?_)
  · have e_1 := (gNz_0 _).mp c_1
    have d_1 := (qFarm_0 _ _).mp e_1
    obtain ⟨a5, a6, a7, a9, a10, a11, a13, a14, a15, a16, a17⟩ := hB.2.2 f.toNat (by omega)
    obtain ⟨b2, b3⟩ := hB.2.1.1 (σ 7 f.toNat).toNat (by omega)
    have gl := gLimit_b hB (f := f) (by omega) (by omega)
    refine lv_aload_n hx hb dX3_charged_12 rfl (lv_at hl 0 rfl) ?_
    refine k_mg (v := .ref (ad 20)) hx hb hts hown hF3 hK hP 23 (by decide) lf67 dX3_charged_13 rfl rfl ?_
    refine lv_iload_n hx hb dX3_charged_16 rfl (lv_at hl 1 rfl) ?_
    refine k_mld (q := 20) (N := 8) (x := f) hx hb hK hP (by decide) rfl (by omega) (by omega) (by decide) dX3_charged_17 ?_
    rw [show (up σ 0 0 (qFarm σ f)) 20 (f).toNat = σ 20 f.toNat by simp [up]]
    have eR : σ 20 f.toNat = rOf (qFarm σ f) (σ 20 f.toNat) := by first | (rw [rOf_0 (by assumption)]) | (rw [rOf_n (k := 1) (by assumption) (by decide)])
    exact W.iret hx hb hr (fun t ht hW => ⟨⟨_, _, rfl, ⟨congrArg iI eR, rfl⟩, by rw [ht]; exact hP, va_K.moved hW.alike hK⟩, hS.F ht⟩) hS.2.2 dX3_charged_18
  · have e_1 := qFarm_1 (fun h => c_1 ((gNz_0 _).mpr h))
    refine k_iconst hx hb dX3_charged_8 ?_
    refine lv_goto (tgt := 18) hx hb dX3_charged_9 (by decide) ?_
    have eR : 0 = rOf (qFarm σ f) (σ 20 f.toNat) := by first | (rw [rOf_0 (by assumption)]) | (rw [rOf_n (k := 1) (by assumption) (by decide)])
    exact W.iret hx hb hr (fun t ht hW => ⟨⟨_, _, rfl, ⟨congrArg iI eR, rfl⟩, by rw [ht]; exact hP, va_K.moved hW.alike hK⟩, hS.F ht⟩) hS.2.2 dX3_charged_18
set_option maxHeartbeats 4000000 in
set_option maxRecDepth 100000 in
theorem m_grain (l : Launch) (G : va_G) (ad : Nat → Nat) (cy : Nat → ClassId) (hI : mI ad) (σ : Sg) (f b : Int) (hf : nB f) (hb : nB b) (hB : mBd σ) : mMi l yX3_grain wsX3_grain ({ frames := 3, cells := 0, slots := 0, locals := 64 } : Room) G ad cy [.ref (ad 0), .int (iI f), .int (iI b)] σ (rOf (qFarm σ f) (if b = 0 then σ 8 f.toNat else σ 9 f.toNat)) (up σ 0 0 (qFarm σ f)) := by
  intro sz
  refine Met.ofW (cc := cX3_grain) (maxL := 3) (ret := (some .int)) (by decide) rfl ?_
  intro p e s m args below meth cd s₁ B hml hv
  obtain ⟨rfl, hsz, hP, hK⟩ := hv
  have hx := B.exec
  have hb := B.bytes
  have hr := B.returns
  have hts := atoms_spec (ws := wsX3_grain) B.pre
  have hown : s.vm.findClass RX3 = some m.cls := findClass_of_methodNamed B.named
  have hlocks := B.notSynchronized
  subst hsz
  have hS : va_S (mA ad s.heap.size) s.heap s.heap [] := va_S.rf
  have hA : ∀ q, s.heap.size ≤ q → mA ad s.heap.size q := fun _ h => Or.inr h
  have hAc : ∀ j, j < 21 → mA ad s.heap.size (ad j) := fun j h => Or.inl ⟨j, h, rfl⟩
  have hl := lv_entry ([.ref (ad 0), .int (iI f), .int (iI b)]) (n := 3) (Nat.le_of_ble_eq_true rfl)
  rw [lg_entry_eq]
  generalize (lg_sl ([.ref (ad 0), .int (iI f), .int (iI b)]) ++ List.replicate (3 - (lg_sl ([.ref (ad 0), .int (iI f), .int (iI b)])).length) Slot.unset).toArray = ls at hl ⊢
  have hl : lv_has ls 3 [(0, .ref (ad 0)), (1, .int (iI f)), (2, .int (iI b))] := hl
  have hF3 : ∀ w ∈ wsX30, w ∈ wsX3_grain := by decide +kernel
  have lf31 := hts (.fieldLink RX3 31 "HarvestLenderModel" "grains" "[I") (by decide +kernel)
  have lf34 := hts (.fieldLink RX3 34 "HarvestLenderModel" "pledged" "[I") (by decide +kernel)
  have hcnt := hB.1.1
  have hstg := hB.1.2.2
  have hsea := hB.1.2.1
  refine lv_aload_n hx hb dX3_grain_0 rfl (lv_at hl 0 rfl) ?_
  refine lv_iload_n hx hb dX3_grain_1 rfl (lv_at hl 1 rfl) ?_
  refine k_mci (As := [.int (iI f)]) (rest := []) ⟨hx, hb, hml, hown, hts⟩ (m_noFarmer l G ad cy hI σ f (by omega) hcnt) (cwV 1 hts gX3_grain_X3_noFarmer rfl rfl rfl (by decide +kernel) ⟨Nat.le_of_ble_eq_true rfl, Nat.le_of_ble_eq_true rfl⟩) (mRecv hK hP) hAc hA hK hP hS rfl hl.1 rfl (Nat.le_of_ble_eq_true rfl) dX3_grain_2 ⟨Nat.zero_le _, Nat.zero_le _⟩ (fun H locs hP hS => ?_)
  refine k_if_eq (tgt := 12) hx hb dX3_grain_5 (by decide) (gNz_nB _) (fun c_1 => ?_) (fun c_1 => ?_)
  · have e_1 := (gNz_0 _).mp c_1
    have d_1 := (qFarm_0 _ _).mp e_1
    obtain ⟨a5, a6, a7, a9, a10, a11, a13, a14, a15, a16, a17⟩ := hB.2.2 f.toNat (by omega)
    obtain ⟨b2, b3⟩ := hB.2.1.1 (σ 7 f.toNat).toNat (by omega)
    have gl := gLimit_b hB (f := f) (by omega) (by omega)
    refine lv_iload_n hx hb dX3_grain_12 rfl (lv_at hl 2 rfl) ?_
    refine k_if_eq (tgt := 25) hx hb dX3_grain_13 (by decide) (by omega) (fun c_2 => ?_) (fun c_2 => ?_)
    · refine lv_aload_n hx hb dX3_grain_25 rfl (lv_at hl 0 rfl) ?_
      refine k_mg (v := .ref (ad 8)) hx hb hts hown hF3 hK hP 11 (by decide) lf31 dX3_grain_26 rfl rfl ?_
      refine lv_iload_n hx hb dX3_grain_29 rfl (lv_at hl 1 rfl) ?_
      refine k_mld (q := 8) (N := 8) (x := f) hx hb hK hP (by decide) rfl (by omega) (by omega) (by decide) dX3_grain_30 ?_
      rw [show (up σ 0 0 (qFarm σ f)) 8 (f).toNat = σ 8 f.toNat by simp [up]]
      have eR : σ 8 f.toNat = rOf (qFarm σ f) (if b = 0 then σ 8 f.toNat else σ 9 f.toNat) := by first | (rw [rOf_0 (by assumption), if_pos (by assumption)]) | (rw [rOf_0 (by assumption), if_neg (by assumption)]) | (rw [rOf_n (k := 1) (by assumption) (by decide)])
      exact W.iret hx hb hr (fun t ht hW => ⟨⟨_, _, rfl, ⟨congrArg iI eR, rfl⟩, by rw [ht]; exact hP, va_K.moved hW.alike hK⟩, hS.F ht⟩) hS.2.2 dX3_grain_31
    · refine lv_aload_n hx hb dX3_grain_16 rfl (lv_at hl 0 rfl) ?_
      refine k_mg (v := .ref (ad 9)) hx hb hts hown hF3 hK hP 12 (by decide) lf34 dX3_grain_17 rfl rfl ?_
      refine lv_iload_n hx hb dX3_grain_20 rfl (lv_at hl 1 rfl) ?_
      refine k_mld (q := 9) (N := 8) (x := f) hx hb hK hP (by decide) rfl (by omega) (by omega) (by decide) dX3_grain_21 ?_
      rw [show (up σ 0 0 (qFarm σ f)) 9 (f).toNat = σ 9 f.toNat by simp [up]]
      refine lv_goto (tgt := 31) hx hb dX3_grain_22 (by decide) ?_
      have eR : σ 9 f.toNat = rOf (qFarm σ f) (if b = 0 then σ 8 f.toNat else σ 9 f.toNat) := by first | (rw [rOf_0 (by assumption), if_pos (by assumption)]) | (rw [rOf_0 (by assumption), if_neg (by assumption)]) | (rw [rOf_n (k := 1) (by assumption) (by decide)])
      exact W.iret hx hb hr (fun t ht hW => ⟨⟨_, _, rfl, ⟨congrArg iI eR, rfl⟩, by rw [ht]; exact hP, va_K.moved hW.alike hK⟩, hS.F ht⟩) hS.2.2 dX3_grain_31
  · have e_1 := qFarm_1 (fun h => c_1 ((gNz_0 _).mpr h))
    refine k_iconst hx hb dX3_grain_8 ?_
    refine lv_goto (tgt := 31) hx hb dX3_grain_9 (by decide) ?_
    have eR : 0 = rOf (qFarm σ f) (if b = 0 then σ 8 f.toNat else σ 9 f.toNat) := by first | (rw [rOf_0 (by assumption), if_pos (by assumption)]) | (rw [rOf_0 (by assumption), if_neg (by assumption)]) | (rw [rOf_n (k := 1) (by assumption) (by decide)])
    exact W.iret hx hb hr (fun t ht hW => ⟨⟨_, _, rfl, ⟨congrArg iI eR, rfl⟩, by rw [ht]; exact hP, va_K.moved hW.alike hK⟩, hS.F ht⟩) hS.2.2 dX3_grain_31
set_option maxHeartbeats 4000000 in
set_option maxRecDepth 100000 in
theorem m_limit (l : Launch) (G : va_G) (ad : Nat → Nat) (cy : Nat → ClassId) (hI : mI ad) (σ : Sg) (f : Int) (hf : nB f) (hB : mBd σ) : mMi l yX3_limit wsX3_limit ({ frames := 3, cells := 0, slots := 0, locals := 64 } : Room) G ad cy [.ref (ad 0), .int (iI f)] σ (rOf (qFarm σ f) (gLimit σ f)) (up σ 0 0 (qFarm σ f)) := by
  intro sz
  refine Met.ofW (cc := cX3_limit) (maxL := 2) (ret := (some .int)) (by decide) rfl ?_
  intro p e s m args below meth cd s₁ B hml hv
  obtain ⟨rfl, hsz, hP, hK⟩ := hv
  have hx := B.exec
  have hb := B.bytes
  have hr := B.returns
  have hts := atoms_spec (ws := wsX3_limit) B.pre
  have hown : s.vm.findClass RX3 = some m.cls := findClass_of_methodNamed B.named
  have hlocks := B.notSynchronized
  subst hsz
  have hS : va_S (mA ad s.heap.size) s.heap s.heap [] := va_S.rf
  have hA : ∀ q, s.heap.size ≤ q → mA ad s.heap.size q := fun _ h => Or.inr h
  have hAc : ∀ j, j < 21 → mA ad s.heap.size (ad j) := fun j h => Or.inl ⟨j, h, rfl⟩
  have hl := lv_entry ([.ref (ad 0), .int (iI f)]) (n := 2) (Nat.le_of_ble_eq_true rfl)
  rw [lg_entry_eq]
  generalize (lg_sl ([.ref (ad 0), .int (iI f)]) ++ List.replicate (2 - (lg_sl ([.ref (ad 0), .int (iI f)])).length) Slot.unset).toArray = ls at hl ⊢
  have hl : lv_has ls 2 [(0, .ref (ad 0)), (1, .int (iI f))] := hl
  have hcnt := hB.1.1
  have hstg := hB.1.2.2
  have hsea := hB.1.2.1
  refine lv_aload_n hx hb dX3_limit_0 rfl (lv_at hl 0 rfl) ?_
  refine lv_iload_n hx hb dX3_limit_1 rfl (lv_at hl 1 rfl) ?_
  refine k_mci (As := [.int (iI f)]) (rest := []) ⟨hx, hb, hml, hown, hts⟩ (m_noFarmer l G ad cy hI σ f (by omega) hcnt) (cwV 1 hts gX3_limit_X3_noFarmer rfl rfl rfl (by decide +kernel) ⟨Nat.le_of_ble_eq_true rfl, Nat.le_of_ble_eq_true rfl⟩) (mRecv hK hP) hAc hA hK hP hS rfl hl.1 rfl (Nat.le_of_ble_eq_true rfl) dX3_limit_2 ⟨Nat.zero_le _, Nat.zero_le _⟩ (fun H locs hP hS => ?_)
  refine k_if_eq (tgt := 12) hx hb dX3_limit_5 (by decide) (gNz_nB _) (fun c_1 => ?_) (fun c_1 => ?_)
  · have e_1 := (gNz_0 _).mp c_1
    have d_1 := (qFarm_0 _ _).mp e_1
    obtain ⟨a5, a6, a7, a9, a10, a11, a13, a14, a15, a16, a17⟩ := hB.2.2 f.toNat (by omega)
    obtain ⟨b2, b3⟩ := hB.2.1.1 (σ 7 f.toNat).toNat (by omega)
    have gl := gLimit_b hB (f := f) (by omega) (by omega)
    refine lv_aload_n hx hb dX3_limit_12 rfl (lv_at hl 0 rfl) ?_
    refine lv_iload_n hx hb dX3_limit_13 rfl (lv_at hl 1 rfl) ?_
    refine k_mci (As := [.int (iI f)]) (rest := []) ⟨hx, hb, hml, hown, hts⟩ (m_limitOf l G ad cy hI (up σ 0 0 (qFarm σ f)) f (by omega) (by omega) (by simp [up]; omega) (by simp [up]; omega)) (cwV 1 hts gX3_limit_X3_limitOf rfl rfl rfl (by decide +kernel) ⟨Nat.le_of_ble_eq_true rfl, Nat.le_of_ble_eq_true rfl⟩) (mRecv hK hP) hAc hA hK hP hS rfl hl.1 rfl (Nat.le_of_ble_eq_true rfl) dX3_limit_14 ⟨Nat.zero_le _, Nat.zero_le _⟩ (fun H locs hP hS => ?_)
    have eR : gLimit (up σ 0 0 (qFarm σ f)) f = rOf (qFarm σ f) (gLimit σ f) := by first | (rw [rOf_0 (by assumption), gLimit_up0]) | (rw [rOf_n (k := 1) (by assumption) (by decide)])
    exact W.iret hx hb hr (fun t ht hW => ⟨⟨_, _, rfl, ⟨congrArg iI eR, rfl⟩, by rw [ht]; exact hP, va_K.moved hW.alike hK⟩, hS.F ht⟩) hS.2.2 dX3_limit_17
  · have e_1 := qFarm_1 (fun h => c_1 ((gNz_0 _).mpr h))
    refine k_iconst hx hb dX3_limit_8 ?_
    refine lv_goto (tgt := 17) hx hb dX3_limit_9 (by decide) ?_
    have eR : 0 = rOf (qFarm σ f) (gLimit σ f) := by first | (rw [rOf_0 (by assumption), gLimit_up0]) | (rw [rOf_n (k := 1) (by assumption) (by decide)])
    exact W.iret hx hb hr (fun t ht hW => ⟨⟨_, _, rfl, ⟨congrArg iI eR, rfl⟩, by rw [ht]; exact hP, va_K.moved hW.alike hK⟩, hS.F ht⟩) hS.2.2 dX3_limit_17
set_option maxHeartbeats 4000000 in
set_option maxRecDepth 100000 in
theorem m_owes (l : Launch) (G : va_G) (ad : Nat → Nat) (cy : Nat → ClassId) (hI : mI ad) (σ : Sg) (f : Int) (hf : nB f) (hB : mBd σ) : mMi l yX3_owes wsX3_owes ({ frames := 3, cells := 0, slots := 0, locals := 64 } : Room) G ad cy [.ref (ad 0), .int (iI f)] σ (rOf (qFarm σ f) (gOwes σ f (σ 11 f.toNat).toNat)) (up σ 0 0 (qFarm σ f)) := by
  intro sz
  refine Met.ofW (cc := cX3_owes) (maxL := 4) (ret := (some .int)) (by decide) rfl ?_
  intro p e s m args below meth cd s₁ B hml hv
  obtain ⟨rfl, hsz, hP, hK⟩ := hv
  have hx := B.exec
  have hb := B.bytes
  have hr := B.returns
  have hts := atoms_spec (ws := wsX3_owes) B.pre
  have hown : s.vm.findClass RX3 = some m.cls := findClass_of_methodNamed B.named
  have hlocks := B.notSynchronized
  subst hsz
  have hS : va_S (mA ad s.heap.size) s.heap s.heap [] := va_S.rf
  have hA : ∀ q, s.heap.size ≤ q → mA ad s.heap.size q := fun _ h => Or.inr h
  have hAc : ∀ j, j < 21 → mA ad s.heap.size (ad j) := fun j h => Or.inl ⟨j, h, rfl⟩
  have hl := lv_entry ([.ref (ad 0), .int (iI f)]) (n := 4) (Nat.le_of_ble_eq_true rfl)
  rw [lg_entry_eq]
  generalize (lg_sl ([.ref (ad 0), .int (iI f)]) ++ List.replicate (4 - (lg_sl ([.ref (ad 0), .int (iI f)])).length) Slot.unset).toArray = ls at hl ⊢
  have hl : lv_has ls 4 [(0, .ref (ad 0)), (1, .int (iI f))] := hl
  have hF3 : ∀ w ∈ wsX30, w ∈ wsX3_owes := by decide +kernel
  have lf40 := hts (.fieldLink RX3 40 "HarvestLenderModel" "rows" "[I") (by decide +kernel)
  have lf43 := hts (.fieldLink RX3 43 "HarvestLenderModel" "parts" "[I") (by decide +kernel)
  have lf25 := hts (.fieldLink RX3 25 "HarvestLenderModel" "debts" "[I") (by decide +kernel)
  have lf37 := hts (.fieldLink RX3 37 "HarvestLenderModel" "pledgeDebts" "[I") (by decide +kernel)
  have hcnt := hB.1.1
  have hstg := hB.1.2.2
  have hsea := hB.1.2.1
  have loop : ∀ (d k : Nat), k ≤ (σ 11 f.toNat).toNat → (σ 11 f.toNat).toNat < k + d → (0 ≤ f ∧ f < 8) → (0 ≤ σ 11 f.toNat ∧ σ 11 f.toNat ≤ 3) → (qFarm σ f = 0) → ∀ (H : Heap) (locs : List Loc) (ls : Array Slot), va_P G vwCl (mW ad cy (up σ 0 0 (qFarm σ f))) H → va_S (mA ad s.heap.size) s.heap H locs → lv_has ls 4 [(0, .ref (ad 0)), (1, .int (iI f)), (2, .int (iI (gOwes σ f k))), (3, .int (iI (k : Int)))] → W p l e (headSpec wsX3_owes ({ frames := 3, cells := 0, slots := 0, locals := 64 } : Room)).room s m ([.ref (ad 0), .int (iI f)] : List Value).toArray below meth cd H locs 0 0 (MQ below (va_Qi (fun (v9 : Int32) (u9 : Sg) => v9 = iI (rOf (qFarm σ f) (gOwes σ f (σ 11 f.toNat).toNat)) ∧ u9 = up σ 0 0 (qFarm σ f)) (mB G ad cy) (mA ad s.heap.size)) ([.ref (ad 0), .int (iI f)] : List Value).toArray s 0 0 (mA ad s.heap.size)) (F0 m 26 ls []) := by
    intro d
    induction d with
    | zero => intro k h1 h2; exact absurd h2 (by omega)
    | succ d ih =>
      intro k hk hd hq0 hq1 hq2 H locs ls hP hS hl
      refine lv_iload_n hx hb dX3_owes_26 rfl (lv_at hl 3 rfl) ?_
      refine lv_aload_n hx hb dX3_owes_27 rfl (lv_at hl 0 rfl) ?_
      refine k_mg (v := .ref (ad 11)) hx hb hts hown hF3 hK hP 14 (by decide) lf40 dX3_owes_28 rfl rfl ?_
      refine lv_iload_n hx hb dX3_owes_31 rfl (lv_at hl 1 rfl) ?_
      refine k_mld (q := 11) (N := 8) (x := f) hx hb hK hP (by decide) rfl (by omega) (by omega) (by decide) dX3_owes_32 ?_
      rw [show (up σ 0 0 (qFarm σ f)) 11 (f).toNat = σ 11 f.toNat by simp [up]]
      refine k_icmp_ge (tgt := 55) hx hb dX3_owes_33 (by decide) (by omega) (by omega) (fun c_1 => ?_) (fun c_1 => ?_)
      · refine lv_iload_n hx hb dX3_owes_55 rfl (lv_at hl 2 rfl) ?_
        have eR : gOwes σ f k = rOf (qFarm σ f) (gOwes σ f (σ 11 f.toNat).toNat) := by first | (rw [rOf_n (k := 1) (by assumption) (by decide)]) | (rw [rOf_0 (by assumption), show (σ 11 f.toNat).toNat = k by omega])
        exact W.iret hx hb hr (fun t ht hW => ⟨⟨_, _, rfl, ⟨congrArg iI eR, rfl⟩, by rw [ht]; exact hP, va_K.moved hW.alike hK⟩, hS.F ht⟩) hS.2.2 dX3_owes_56
      · refine lv_iload_n hx hb dX3_owes_36 rfl (lv_at hl 2 rfl) ?_
        refine lv_aload_n hx hb dX3_owes_37 rfl (lv_at hl 0 rfl) ?_
        refine k_mg (v := .ref (ad 12)) hx hb hts hown hF3 hK hP 15 (by decide) lf43 dX3_owes_38 rfl rfl ?_
        refine k_iconst hx hb dX3_owes_41 ?_
        refine lv_iload_n hx hb dX3_owes_42 rfl (lv_at hl 1 rfl) ?_
        refine k_imul hx hb dX3_owes_43 ?_
        refine lv_iload_n hx hb dX3_owes_44 rfl (lv_at hl 3 rfl) ?_
        refine k_iadd hx hb dX3_owes_45 ?_
        refine k_mld (q := 12) (N := 24) (x := (3 * f) + (k : Int)) hx hb hK hP (by decide) rfl (by omega) (by omega) (by decide) dX3_owes_46 ?_
        rw [show (up σ 0 0 (qFarm σ f)) 12 ((3 * f) + (k : Int)).toNat = σ 12 (((3 * f) + (k : Int)).toNat) by simp [up]]
        refine k_iadd hx hb dX3_owes_47 ?_
        refine lv_istore_n (lv' := [(2, .int (iI ((gOwes σ f k) + (σ 12 (((3 * f) + (k : Int)).toNat))))), (0, .ref (ad 0)), (1, .int (iI f)), (3, .int (iI (k : Int)))]) hx hb dX3_owes_48 rfl hl (by decide) rfl (fun ls hl => ?_)
        refine lv_iinc (v := iI ((k : Int) + 1)) (lv' := [(3, .int (iI ((k : Int) + 1))), (2, .int (iI ((gOwes σ f k) + (σ 12 (((3 * f) + (k : Int)).toNat))))), (0, .ref (ad 0)), (1, .int (iI f))]) hx hb dX3_owes_49 hl (k := 3) rfl (iI_add _ _) (by decide) rfl (fun ls hl => ?_)
        refine lv_goto (tgt := 26) hx hb dX3_owes_52 (by decide) ?_
        have q2 : gOwes σ f (k + 1) = (gOwes σ f k) + (σ 12 (((3 * f) + (k : Int)).toNat)) := by rfl
        exact ih (k + 1) (by omega) (by omega) (by omega) (by omega) (by assumption) _ _ _ hP hS (by rw [q2]; exact lv_sub hl [2, 3, 1, 0] rfl)
  refine lv_aload_n hx hb dX3_owes_0 rfl (lv_at hl 0 rfl) ?_
  refine lv_iload_n hx hb dX3_owes_1 rfl (lv_at hl 1 rfl) ?_
  refine k_mci (As := [.int (iI f)]) (rest := []) ⟨hx, hb, hml, hown, hts⟩ (m_noFarmer l G ad cy hI σ f (by omega) hcnt) (cwV 1 hts gX3_owes_X3_noFarmer rfl rfl rfl (by decide +kernel) ⟨Nat.le_of_ble_eq_true rfl, Nat.le_of_ble_eq_true rfl⟩) (mRecv hK hP) hAc hA hK hP hS rfl hl.1 rfl (Nat.le_of_ble_eq_true rfl) dX3_owes_2 ⟨Nat.zero_le _, Nat.zero_le _⟩ (fun H locs hP hS => ?_)
  refine k_if_eq (tgt := 10) hx hb dX3_owes_5 (by decide) (gNz_nB _) (fun c_3 => ?_) (fun c_3 => ?_)
  · have e_3 := (gNz_0 _).mp c_3
    have d_3 := (qFarm_0 _ _).mp e_3
    obtain ⟨a5, a6, a7, a9, a10, a11, a13, a14, a15, a16, a17⟩ := hB.2.2 f.toNat (by omega)
    obtain ⟨b2, b3⟩ := hB.2.1.1 (σ 7 f.toNat).toNat (by omega)
    have gl := gLimit_b hB (f := f) (by omega) (by omega)
    refine lv_aload_n hx hb dX3_owes_10 rfl (lv_at hl 0 rfl) ?_
    refine k_mg (v := .ref (ad 6)) hx hb hts hown hF3 hK hP 9 (by decide) lf25 dX3_owes_11 rfl rfl ?_
    refine lv_iload_n hx hb dX3_owes_14 rfl (lv_at hl 1 rfl) ?_
    refine k_mld (q := 6) (N := 8) (x := f) hx hb hK hP (by decide) rfl (by omega) (by omega) (by decide) dX3_owes_15 ?_
    rw [show (up σ 0 0 (qFarm σ f)) 6 (f).toNat = σ 6 f.toNat by simp [up]]
    refine lv_aload_n hx hb dX3_owes_16 rfl (lv_at hl 0 rfl) ?_
    refine k_mg (v := .ref (ad 10)) hx hb hts hown hF3 hK hP 13 (by decide) lf37 dX3_owes_17 rfl rfl ?_
    refine lv_iload_n hx hb dX3_owes_20 rfl (lv_at hl 1 rfl) ?_
    refine k_mld (q := 10) (N := 8) (x := f) hx hb hK hP (by decide) rfl (by omega) (by omega) (by decide) dX3_owes_21 ?_
    rw [show (up σ 0 0 (qFarm σ f)) 10 (f).toNat = σ 10 f.toNat by simp [up]]
    refine k_iadd hx hb dX3_owes_22 ?_
    refine lv_istore_n (lv' := [(2, .int (iI ((σ 6 f.toNat) + (σ 10 f.toNat)))), (0, .ref (ad 0)), (1, .int (iI f))]) hx hb dX3_owes_23 rfl hl (by decide) rfl (fun ls hl => ?_)
    refine k_iconst hx hb dX3_owes_24 ?_
    refine lv_istore_n (lv' := [(3, .int (iI 0)), (2, .int (iI ((σ 6 f.toNat) + (σ 10 f.toNat)))), (0, .ref (ad 0)), (1, .int (iI f))]) hx hb dX3_owes_25 rfl hl (by decide) rfl (fun ls hl => ?_)
    have q4 : gOwes σ f 0 = (σ 6 f.toNat) + (σ 10 f.toNat) := by rfl
    exact loop ((σ 11 f.toNat).toNat + 1) 0 (Nat.zero_le _) (by omega) (by omega) (by omega) (by assumption) _ _ _ hP hS (by rw [q4]; exact lv_sub hl [2, 3, 1, 0] rfl)
  · have e_3 := qFarm_1 (fun h => c_3 ((gNz_0 _).mpr h))
    refine k_iconst hx hb dX3_owes_8 ?_
    have eR : 0 = rOf (qFarm σ f) (gOwes σ f (σ 11 f.toNat).toNat) := by first | (rw [rOf_n (k := 1) (by assumption) (by decide)]) | (rw [rOf_0 (by assumption), show (σ 11 f.toNat).toNat = k by omega])
    exact W.iret hx hb hr (fun t ht hW => ⟨⟨_, _, rfl, ⟨congrArg iI eR, rfl⟩, by rw [ht]; exact hP, va_K.moved hW.alike hK⟩, hS.F ht⟩) hS.2.2 dX3_owes_9
set_option maxHeartbeats 4000000 in
set_option maxRecDepth 100000 in
theorem m_plant (l : Launch) (G : va_G) (ad : Nat → Nat) (cy : Nat → ClassId) (hI : mI ad) (σ : Sg) (f c h : Int) (hf : nB f) (hc : nB c) (hh : nB h) (hB : mBd σ) : mMi l yX3_plant wsX3_plant ({ frames := 2, cells := 0, slots := 0, locals := 43 } : Room) G ad cy [.ref (ad 0), .int (iI f), .int (iI c), .int (iI h)] σ (rOf (qPlant σ f c h) (gLimit (up (up (up σ 0 0 0) 13 f.toNat c) 14 f.toNat h) f)) (tOf (qPlant σ f c h) σ (up (up (up σ 0 0 0) 13 f.toNat c) 14 f.toNat h)) := by
  intro sz
  refine Met.ofW (cc := cX3_plant) (maxL := 6) (ret := (some .int)) (by decide) rfl ?_
  intro p e s m args below meth cd s₁ B hml hv
  obtain ⟨rfl, hsz, hP, hK⟩ := hv
  have hx := B.exec
  have hb := B.bytes
  have hr := B.returns
  have hts := atoms_spec (ws := wsX3_plant) B.pre
  have hown : s.vm.findClass RX3 = some m.cls := findClass_of_methodNamed B.named
  have hlocks := B.notSynchronized
  subst hsz
  have hS : va_S (mA ad s.heap.size) s.heap s.heap [] := va_S.rf
  have hA : ∀ q, s.heap.size ≤ q → mA ad s.heap.size q := fun _ h => Or.inr h
  have hAc : ∀ j, j < 21 → mA ad s.heap.size (ad j) := fun j h => Or.inl ⟨j, h, rfl⟩
  have hl := lv_entry ([.ref (ad 0), .int (iI f), .int (iI c), .int (iI h)]) (n := 6) (Nat.le_of_ble_eq_true rfl)
  rw [lg_entry_eq]
  generalize (lg_sl ([.ref (ad 0), .int (iI f), .int (iI c), .int (iI h)]) ++ List.replicate (6 - (lg_sl ([.ref (ad 0), .int (iI f), .int (iI c), .int (iI h)])).length) Slot.unset).toArray = ls at hl ⊢
  have hl : lv_has ls 6 [(0, .ref (ad 0)), (1, .int (iI f)), (2, .int (iI c)), (3, .int (iI h))] := hl
  have hF3 : ∀ w ∈ wsX30, w ∈ wsX3_plant := by decide +kernel
  have lf101 := hts (.fieldLink RX3 101 "HarvestLenderModel" "stage" "I") (by decide +kernel)
  have lf46 := hts (.fieldLink RX3 46 "HarvestLenderModel" "crops" "[I") (by decide +kernel)
  have lf31 := hts (.fieldLink RX3 31 "HarvestLenderModel" "grains" "[I") (by decide +kernel)
  have lf49 := hts (.fieldLink RX3 49 "HarvestLenderModel" "hectares" "[I") (by decide +kernel)
  have lf28 := hts (.fieldLink RX3 28 "HarvestLenderModel" "grainCrops" "[I") (by decide +kernel)
  have hcnt := hB.1.1
  have hstg := hB.1.2.2
  have hsea := hB.1.2.1
  refine lv_aload_n hx hb dX3_plant_0 rfl (lv_at hl 0 rfl) ?_
  refine lv_iload_n hx hb dX3_plant_1 rfl (lv_at hl 1 rfl) ?_
  refine k_mci (As := [.int (iI f)]) (rest := []) ⟨hx, hb, hml, hown, hts⟩ (m_isFarmer l G ad cy hI σ f (by omega) hcnt) (cwV 1 hts gX3_plant_X3_isFarmer rfl rfl rfl (by decide +kernel) ⟨Nat.le_of_ble_eq_true rfl, Nat.le_of_ble_eq_true rfl⟩) (mRecv hK hP) hAc hA hK hP hS rfl hl.1 rfl (Nat.le_of_ble_eq_true rfl) dX3_plant_2 ⟨Nat.zero_le _, Nat.zero_le _⟩ (fun H locs hP hS => ?_)
  refine k_if_eq (tgt := 19) hx hb dX3_plant_5 (by decide) (gIn_nB _ _ _) (fun c_1 => ?_) (fun c_1 => ?_)
  · have d_1 := c_1
    rw [gIn_0] at d_1
    refine k_iconst hx hb dX3_plant_19 ?_
    refine lv_istore (lv' := [(4, .int (iI 0)), (0, .ref (ad 0)), (1, .int (iI f)), (2, .int (iI c)), (3, .int (iI h))]) hx hb dX3_plant_20 hl (by decide) rfl (fun ls hl => ?_)
    refine lv_iload hx hb dX3_plant_22 (lv_at hl 0 rfl) ?_
    refine k_if_eq (tgt := 67) hx hb dX3_plant_24 (by decide) (by decide) (fun _ => ?_) (fun c9 => absurd c9 (by decide))
    refine k_iconst hx hb dX3_plant_67 ?_
    refine lv_istore (lv' := [(5, .int (iI 0)), (4, .int (iI 0)), (0, .ref (ad 0)), (1, .int (iI f)), (2, .int (iI c)), (3, .int (iI h))]) hx hb dX3_plant_68 hl (by decide) rfl (fun ls hl => ?_)
    refine lv_aload_n hx hb dX3_plant_70 rfl (lv_at hl 2 rfl) ?_
    refine lv_iload hx hb dX3_plant_71 (lv_at hl 1 rfl) ?_
    refine k_if_ne (tgt := 80) hx hb dX3_plant_73 (by decide) (by decide) (fun c9 => absurd c9 (by decide)) (fun _ => ?_)
    refine k_iconst hx hb dX3_plant_76 ?_
    refine lv_goto (tgt := 104) hx hb dX3_plant_77 (by decide) ?_
    refine k_mci (As := [.int (iI 1)]) (rest := []) ⟨hx, hb, hml, hown, hts⟩ (m_refused l G ad cy hI σ 1 (by decide)) (cwV 1 hts gX3_plant_X3_refused rfl rfl rfl (by decide +kernel) ⟨Nat.le_of_ble_eq_true rfl, Nat.le_of_ble_eq_true rfl⟩) (mRecv hK hP) hAc hA hK hP hS rfl hl.1 rfl (Nat.le_of_ble_eq_true rfl) dX3_plant_104 ⟨Nat.zero_le _, Nat.zero_le _⟩ (fun H locs hP hS => ?_)
    refine k_if_eq (tgt := 112) hx hb dX3_plant_107 (by decide) (gNz_nB _) (fun c9 => absurd c9 (by decide)) (fun _ => ?_)
    refine k_iconst hx hb dX3_plant_110 ?_
    have eQ : qPlant σ f c h = 1 := by unfold qPlant; (repeat' split) <;> first | rfl | omega
    have eF : up σ 0 0 1 = tOf (qPlant σ f c h) σ (up (up (up σ 0 0 0) 13 f.toNat c) 14 f.toNat h) := by (rw [tOf_n eQ (by decide)]); try (rfl)
    rw [eF] at hP
    have eR : 0 = rOf (qPlant σ f c h) (gLimit (up (up (up σ 0 0 0) 13 f.toNat c) 14 f.toNat h) f) := by (rw [rOf_n eQ (by decide)]); try (rfl)
    exact W.iret hx hb hr (fun t ht hW => ⟨⟨_, _, rfl, ⟨congrArg iI eR, rfl⟩, by rw [ht]; exact hP, va_K.moved hW.alike hK⟩, hS.F ht⟩) hS.2.2 dX3_plant_111
  · have d_1 := c_1
    rw [gIn_0] at d_1
    obtain ⟨a5, a6, a7, a9, a10, a11, a13, a14, a15, a16, a17⟩ := hB.2.2 f.toNat (by omega)
    obtain ⟨b2, b3⟩ := hB.2.1.1 (σ 7 f.toNat).toNat (by omega)
    have gl := gLimit_b hB (f := f) (by omega) (by omega)
    refine lv_iload_n hx hb dX3_plant_8 rfl (lv_at hl 2 rfl) ?_
    refine k_msi (As := [.int (iI c)]) (rest := []) ⟨hx, hb, hml, hown, hts⟩ (m_isCrop l G ad cy hI σ c (by omega)) (va_cwS 1 hts gX3_plant_X3_isCrop rfl rfl rfl (by decide +kernel) ⟨Nat.le_of_ble_eq_true rfl, Nat.le_of_ble_eq_true rfl⟩) hAc hA hK hP hS rfl hl.1 rfl (Nat.le_of_ble_eq_true rfl) dX3_plant_9 ⟨Nat.zero_le _, Nat.zero_le _⟩ (fun H locs hP hS => ?_)
    refine k_if_eq (tgt := 19) hx hb dX3_plant_12 (by decide) (gIn_nB _ _ _) (fun c_3 => ?_) (fun c_3 => ?_)
    · have d_3 := c_3
      rw [gIn_0] at d_3
      refine k_iconst hx hb dX3_plant_19 ?_
      refine lv_istore (lv' := [(4, .int (iI 0)), (0, .ref (ad 0)), (1, .int (iI f)), (2, .int (iI c)), (3, .int (iI h))]) hx hb dX3_plant_20 hl (by decide) rfl (fun ls hl => ?_)
      refine lv_iload hx hb dX3_plant_22 (lv_at hl 0 rfl) ?_
      refine k_if_eq (tgt := 67) hx hb dX3_plant_24 (by decide) (by decide) (fun _ => ?_) (fun c9 => absurd c9 (by decide))
      refine k_iconst hx hb dX3_plant_67 ?_
      refine lv_istore (lv' := [(5, .int (iI 0)), (4, .int (iI 0)), (0, .ref (ad 0)), (1, .int (iI f)), (2, .int (iI c)), (3, .int (iI h))]) hx hb dX3_plant_68 hl (by decide) rfl (fun ls hl => ?_)
      refine lv_aload_n hx hb dX3_plant_70 rfl (lv_at hl 2 rfl) ?_
      refine lv_iload hx hb dX3_plant_71 (lv_at hl 1 rfl) ?_
      refine k_if_ne (tgt := 80) hx hb dX3_plant_73 (by decide) (by decide) (fun c9 => absurd c9 (by decide)) (fun _ => ?_)
      refine k_iconst hx hb dX3_plant_76 ?_
      refine lv_goto (tgt := 104) hx hb dX3_plant_77 (by decide) ?_
      refine k_mci (As := [.int (iI 1)]) (rest := []) ⟨hx, hb, hml, hown, hts⟩ (m_refused l G ad cy hI σ 1 (by decide)) (cwV 1 hts gX3_plant_X3_refused rfl rfl rfl (by decide +kernel) ⟨Nat.le_of_ble_eq_true rfl, Nat.le_of_ble_eq_true rfl⟩) (mRecv hK hP) hAc hA hK hP hS rfl hl.1 rfl (Nat.le_of_ble_eq_true rfl) dX3_plant_104 ⟨Nat.zero_le _, Nat.zero_le _⟩ (fun H locs hP hS => ?_)
      refine k_if_eq (tgt := 112) hx hb dX3_plant_107 (by decide) (gNz_nB _) (fun c9 => absurd c9 (by decide)) (fun _ => ?_)
      refine k_iconst hx hb dX3_plant_110 ?_
      have eQ : qPlant σ f c h = 1 := by unfold qPlant; (repeat' split) <;> first | rfl | omega
      have eF : up σ 0 0 1 = tOf (qPlant σ f c h) σ (up (up (up σ 0 0 0) 13 f.toNat c) 14 f.toNat h) := by (rw [tOf_n eQ (by decide)]); try (rfl)
      rw [eF] at hP
      have eR : 0 = rOf (qPlant σ f c h) (gLimit (up (up (up σ 0 0 0) 13 f.toNat c) 14 f.toNat h) f) := by (rw [rOf_n eQ (by decide)]); try (rfl)
      exact W.iret hx hb hr (fun t ht hW => ⟨⟨_, _, rfl, ⟨congrArg iI eR, rfl⟩, by rw [ht]; exact hP, va_K.moved hW.alike hK⟩, hS.F ht⟩) hS.2.2 dX3_plant_111
    · have d_3 := c_3
      rw [gIn_0] at d_3
      refine k_iconst hx hb dX3_plant_15 ?_
      refine lv_goto (tgt := 20) hx hb dX3_plant_16 (by decide) ?_
      refine lv_istore (lv' := [(4, .int (iI 1)), (0, .ref (ad 0)), (1, .int (iI f)), (2, .int (iI c)), (3, .int (iI h))]) hx hb dX3_plant_20 hl (by decide) rfl (fun ls hl => ?_)
      refine lv_iload hx hb dX3_plant_22 (lv_at hl 0 rfl) ?_
      refine k_if_eq (tgt := 67) hx hb dX3_plant_24 (by decide) (by decide) (fun c9 => absurd c9 (by decide)) (fun _ => ?_)
      refine lv_aload_n hx hb dX3_plant_27 rfl (lv_at hl 1 rfl) ?_
      refine k_mg (v := .int (iI (σ 0 2))) hx hb hts hown hF3 hK hP 2 (by decide) lf101 dX3_plant_28 rfl rfl ?_
      refine k_if_ne (tgt := 67) hx hb dX3_plant_31 (by decide) (by omega) (fun c_5 => ?_) (fun c_5 => ?_)
      · refine k_iconst hx hb dX3_plant_67 ?_
        refine lv_istore (lv' := [(5, .int (iI 0)), (4, .int (iI 1)), (0, .ref (ad 0)), (1, .int (iI f)), (2, .int (iI c)), (3, .int (iI h))]) hx hb dX3_plant_68 hl (by decide) rfl (fun ls hl => ?_)
        refine lv_aload_n hx hb dX3_plant_70 rfl (lv_at hl 2 rfl) ?_
        refine lv_iload hx hb dX3_plant_71 (lv_at hl 1 rfl) ?_
        refine k_if_ne (tgt := 80) hx hb dX3_plant_73 (by decide) (by decide) (fun _ => ?_) (fun c9 => absurd c9 (by decide))
        refine lv_iload_n hx hb dX3_plant_80 rfl (lv_at hl 5 rfl) ?_
        refine k_iconst hx hb dX3_plant_81 ?_
        refine k_bipush hx hb dX3_plant_82 (by decide) ?_
        refine k_msi (As := [.int (iI h), .int (iI 1), .int (iI 50)]) (rest := [.ref (ad 0)]) ⟨hx, hb, hml, hown, hts⟩ (m_in l G ad cy hI σ h 1 50 (by omega) (by decide) (by decide)) (va_cwS 3 hts gX3_plant_X3_in rfl rfl rfl (by decide +kernel) ⟨Nat.le_of_ble_eq_true rfl, Nat.le_of_ble_eq_true rfl⟩) hAc hA hK hP hS rfl hl.1 rfl (Nat.le_of_ble_eq_true rfl) dX3_plant_84 ⟨Nat.zero_le _, Nat.zero_le _⟩ (fun H locs hP hS => ?_)
        refine k_if_ne (tgt := 94) hx hb dX3_plant_87 (by decide) (gIn_nB _ _ _) (fun c_6 => ?_) (fun c_6 => ?_)
        · have d_6 := c_6
          rw [gIn_0] at d_6
          refine lv_iload hx hb dX3_plant_94 (lv_at hl 0 rfl) ?_
          refine k_if_eq (tgt := 103) hx hb dX3_plant_96 (by decide) (by decide) (fun _ => ?_) (fun c9 => absurd c9 (by decide))
          refine k_iconst hx hb dX3_plant_103 ?_
          refine k_mci (As := [.int (iI 3)]) (rest := []) ⟨hx, hb, hml, hown, hts⟩ (m_refused l G ad cy hI σ 3 (by decide)) (cwV 1 hts gX3_plant_X3_refused rfl rfl rfl (by decide +kernel) ⟨Nat.le_of_ble_eq_true rfl, Nat.le_of_ble_eq_true rfl⟩) (mRecv hK hP) hAc hA hK hP hS rfl hl.1 rfl (Nat.le_of_ble_eq_true rfl) dX3_plant_104 ⟨Nat.zero_le _, Nat.zero_le _⟩ (fun H locs hP hS => ?_)
          refine k_if_eq (tgt := 112) hx hb dX3_plant_107 (by decide) (gNz_nB _) (fun c9 => absurd c9 (by decide)) (fun _ => ?_)
          refine k_iconst hx hb dX3_plant_110 ?_
          have eQ : qPlant σ f c h = 3 := by unfold qPlant; (repeat' split) <;> first | rfl | omega
          have eF : up σ 0 0 3 = tOf (qPlant σ f c h) σ (up (up (up σ 0 0 0) 13 f.toNat c) 14 f.toNat h) := by (rw [tOf_n eQ (by decide)]); try (rfl)
          rw [eF] at hP
          have eR : 0 = rOf (qPlant σ f c h) (gLimit (up (up (up σ 0 0 0) 13 f.toNat c) 14 f.toNat h) f) := by (rw [rOf_n eQ (by decide)]); try (rfl)
          exact W.iret hx hb hr (fun t ht hW => ⟨⟨_, _, rfl, ⟨congrArg iI eR, rfl⟩, by rw [ht]; exact hP, va_K.moved hW.alike hK⟩, hS.F ht⟩) hS.2.2 dX3_plant_111
        · have d_6 := c_6
          rw [gIn_0] at d_6
          refine k_iconst hx hb dX3_plant_90 ?_
          refine lv_goto (tgt := 104) hx hb dX3_plant_91 (by decide) ?_
          refine k_mci (As := [.int (iI 2)]) (rest := []) ⟨hx, hb, hml, hown, hts⟩ (m_refused l G ad cy hI σ 2 (by decide)) (cwV 1 hts gX3_plant_X3_refused rfl rfl rfl (by decide +kernel) ⟨Nat.le_of_ble_eq_true rfl, Nat.le_of_ble_eq_true rfl⟩) (mRecv hK hP) hAc hA hK hP hS rfl hl.1 rfl (Nat.le_of_ble_eq_true rfl) dX3_plant_104 ⟨Nat.zero_le _, Nat.zero_le _⟩ (fun H locs hP hS => ?_)
          refine k_if_eq (tgt := 112) hx hb dX3_plant_107 (by decide) (gNz_nB _) (fun c9 => absurd c9 (by decide)) (fun _ => ?_)
          refine k_iconst hx hb dX3_plant_110 ?_
          have eQ : qPlant σ f c h = 2 := by unfold qPlant; (repeat' split) <;> first | rfl | omega
          have eF : up σ 0 0 2 = tOf (qPlant σ f c h) σ (up (up (up σ 0 0 0) 13 f.toNat c) 14 f.toNat h) := by (rw [tOf_n eQ (by decide)]); try (rfl)
          rw [eF] at hP
          have eR : 0 = rOf (qPlant σ f c h) (gLimit (up (up (up σ 0 0 0) 13 f.toNat c) 14 f.toNat h) f) := by (rw [rOf_n eQ (by decide)]); try (rfl)
          exact W.iret hx hb hr (fun t ht hW => ⟨⟨_, _, rfl, ⟨congrArg iI eR, rfl⟩, by rw [ht]; exact hP, va_K.moved hW.alike hK⟩, hS.F ht⟩) hS.2.2 dX3_plant_111
      · refine lv_aload_n hx hb dX3_plant_34 rfl (lv_at hl 1 rfl) ?_
        refine k_mg (v := .ref (ad 13)) hx hb hts hown hF3 hK hP 16 (by decide) lf46 dX3_plant_35 rfl rfl ?_
        refine lv_iload_n hx hb dX3_plant_38 rfl (lv_at hl 2 rfl) ?_
        refine k_mld (q := 13) (N := 8) (x := f) hx hb hK hP (by decide) rfl (by omega) (by omega) (by decide) dX3_plant_39 ?_
        refine k_iconst hx hb dX3_plant_40 ?_
        refine k_icmp_ne (tgt := 67) hx hb dX3_plant_41 (by decide) (by omega) (by decide) (fun c_9 => ?_) (fun c_9 => ?_)
        · refine k_iconst hx hb dX3_plant_67 ?_
          refine lv_istore (lv' := [(5, .int (iI 0)), (4, .int (iI 1)), (0, .ref (ad 0)), (1, .int (iI f)), (2, .int (iI c)), (3, .int (iI h))]) hx hb dX3_plant_68 hl (by decide) rfl (fun ls hl => ?_)
          refine lv_aload_n hx hb dX3_plant_70 rfl (lv_at hl 2 rfl) ?_
          refine lv_iload hx hb dX3_plant_71 (lv_at hl 1 rfl) ?_
          refine k_if_ne (tgt := 80) hx hb dX3_plant_73 (by decide) (by decide) (fun _ => ?_) (fun c9 => absurd c9 (by decide))
          refine lv_iload_n hx hb dX3_plant_80 rfl (lv_at hl 5 rfl) ?_
          refine k_iconst hx hb dX3_plant_81 ?_
          refine k_bipush hx hb dX3_plant_82 (by decide) ?_
          refine k_msi (As := [.int (iI h), .int (iI 1), .int (iI 50)]) (rest := [.ref (ad 0)]) ⟨hx, hb, hml, hown, hts⟩ (m_in l G ad cy hI σ h 1 50 (by omega) (by decide) (by decide)) (va_cwS 3 hts gX3_plant_X3_in rfl rfl rfl (by decide +kernel) ⟨Nat.le_of_ble_eq_true rfl, Nat.le_of_ble_eq_true rfl⟩) hAc hA hK hP hS rfl hl.1 rfl (Nat.le_of_ble_eq_true rfl) dX3_plant_84 ⟨Nat.zero_le _, Nat.zero_le _⟩ (fun H locs hP hS => ?_)
          refine k_if_ne (tgt := 94) hx hb dX3_plant_87 (by decide) (gIn_nB _ _ _) (fun c_10 => ?_) (fun c_10 => ?_)
          · have d_10 := c_10
            rw [gIn_0] at d_10
            refine lv_iload hx hb dX3_plant_94 (lv_at hl 0 rfl) ?_
            refine k_if_eq (tgt := 103) hx hb dX3_plant_96 (by decide) (by decide) (fun _ => ?_) (fun c9 => absurd c9 (by decide))
            refine k_iconst hx hb dX3_plant_103 ?_
            refine k_mci (As := [.int (iI 3)]) (rest := []) ⟨hx, hb, hml, hown, hts⟩ (m_refused l G ad cy hI σ 3 (by decide)) (cwV 1 hts gX3_plant_X3_refused rfl rfl rfl (by decide +kernel) ⟨Nat.le_of_ble_eq_true rfl, Nat.le_of_ble_eq_true rfl⟩) (mRecv hK hP) hAc hA hK hP hS rfl hl.1 rfl (Nat.le_of_ble_eq_true rfl) dX3_plant_104 ⟨Nat.zero_le _, Nat.zero_le _⟩ (fun H locs hP hS => ?_)
            refine k_if_eq (tgt := 112) hx hb dX3_plant_107 (by decide) (gNz_nB _) (fun c9 => absurd c9 (by decide)) (fun _ => ?_)
            refine k_iconst hx hb dX3_plant_110 ?_
            have eQ : qPlant σ f c h = 3 := by unfold qPlant; (repeat' split) <;> first | rfl | omega
            have eF : up σ 0 0 3 = tOf (qPlant σ f c h) σ (up (up (up σ 0 0 0) 13 f.toNat c) 14 f.toNat h) := by (rw [tOf_n eQ (by decide)]); try (rfl)
            rw [eF] at hP
            have eR : 0 = rOf (qPlant σ f c h) (gLimit (up (up (up σ 0 0 0) 13 f.toNat c) 14 f.toNat h) f) := by (rw [rOf_n eQ (by decide)]); try (rfl)
            exact W.iret hx hb hr (fun t ht hW => ⟨⟨_, _, rfl, ⟨congrArg iI eR, rfl⟩, by rw [ht]; exact hP, va_K.moved hW.alike hK⟩, hS.F ht⟩) hS.2.2 dX3_plant_111
          · have d_10 := c_10
            rw [gIn_0] at d_10
            refine k_iconst hx hb dX3_plant_90 ?_
            refine lv_goto (tgt := 104) hx hb dX3_plant_91 (by decide) ?_
            refine k_mci (As := [.int (iI 2)]) (rest := []) ⟨hx, hb, hml, hown, hts⟩ (m_refused l G ad cy hI σ 2 (by decide)) (cwV 1 hts gX3_plant_X3_refused rfl rfl rfl (by decide +kernel) ⟨Nat.le_of_ble_eq_true rfl, Nat.le_of_ble_eq_true rfl⟩) (mRecv hK hP) hAc hA hK hP hS rfl hl.1 rfl (Nat.le_of_ble_eq_true rfl) dX3_plant_104 ⟨Nat.zero_le _, Nat.zero_le _⟩ (fun H locs hP hS => ?_)
            refine k_if_eq (tgt := 112) hx hb dX3_plant_107 (by decide) (gNz_nB _) (fun c9 => absurd c9 (by decide)) (fun _ => ?_)
            refine k_iconst hx hb dX3_plant_110 ?_
            have eQ : qPlant σ f c h = 2 := by unfold qPlant; (repeat' split) <;> first | rfl | omega
            have eF : up σ 0 0 2 = tOf (qPlant σ f c h) σ (up (up (up σ 0 0 0) 13 f.toNat c) 14 f.toNat h) := by (rw [tOf_n eQ (by decide)]); try (rfl)
            rw [eF] at hP
            have eR : 0 = rOf (qPlant σ f c h) (gLimit (up (up (up σ 0 0 0) 13 f.toNat c) 14 f.toNat h) f) := by (rw [rOf_n eQ (by decide)]); try (rfl)
            exact W.iret hx hb hr (fun t ht hW => ⟨⟨_, _, rfl, ⟨congrArg iI eR, rfl⟩, by rw [ht]; exact hP, va_K.moved hW.alike hK⟩, hS.F ht⟩) hS.2.2 dX3_plant_111
        · refine lv_aload_n hx hb dX3_plant_44 rfl (lv_at hl 1 rfl) ?_
          refine k_mg (v := .ref (ad 8)) hx hb hts hown hF3 hK hP 11 (by decide) lf31 dX3_plant_45 rfl rfl ?_
          refine lv_iload_n hx hb dX3_plant_48 rfl (lv_at hl 2 rfl) ?_
          refine k_mld (q := 8) (N := 8) (x := f) hx hb hK hP (by decide) rfl (by omega) (by omega) (by decide) dX3_plant_49 ?_
          refine k_if_eq (tgt := 63) hx hb dX3_plant_50 (by decide) (by omega) (fun c_13 => ?_) (fun c_13 => ?_)
          · refine k_iconst hx hb dX3_plant_63 ?_
            refine lv_goto (tgt := 68) hx hb dX3_plant_64 (by decide) ?_
            refine lv_istore (lv' := [(5, .int (iI 1)), (4, .int (iI 1)), (0, .ref (ad 0)), (1, .int (iI f)), (2, .int (iI c)), (3, .int (iI h))]) hx hb dX3_plant_68 hl (by decide) rfl (fun ls hl => ?_)
            refine lv_aload_n hx hb dX3_plant_70 rfl (lv_at hl 2 rfl) ?_
            refine lv_iload hx hb dX3_plant_71 (lv_at hl 1 rfl) ?_
            refine k_if_ne (tgt := 80) hx hb dX3_plant_73 (by decide) (by decide) (fun _ => ?_) (fun c9 => absurd c9 (by decide))
            refine lv_iload_n hx hb dX3_plant_80 rfl (lv_at hl 5 rfl) ?_
            refine k_iconst hx hb dX3_plant_81 ?_
            refine k_bipush hx hb dX3_plant_82 (by decide) ?_
            refine k_msi (As := [.int (iI h), .int (iI 1), .int (iI 50)]) (rest := [.ref (ad 0)]) ⟨hx, hb, hml, hown, hts⟩ (m_in l G ad cy hI σ h 1 50 (by omega) (by decide) (by decide)) (va_cwS 3 hts gX3_plant_X3_in rfl rfl rfl (by decide +kernel) ⟨Nat.le_of_ble_eq_true rfl, Nat.le_of_ble_eq_true rfl⟩) hAc hA hK hP hS rfl hl.1 rfl (Nat.le_of_ble_eq_true rfl) dX3_plant_84 ⟨Nat.zero_le _, Nat.zero_le _⟩ (fun H locs hP hS => ?_)
            refine k_if_ne (tgt := 94) hx hb dX3_plant_87 (by decide) (gIn_nB _ _ _) (fun c_14 => ?_) (fun c_14 => ?_)
            · have d_14 := c_14
              rw [gIn_0] at d_14
              refine lv_iload hx hb dX3_plant_94 (lv_at hl 0 rfl) ?_
              refine k_if_eq (tgt := 103) hx hb dX3_plant_96 (by decide) (by decide) (fun c9 => absurd c9 (by decide)) (fun _ => ?_)
              refine k_iconst hx hb dX3_plant_99 ?_
              refine lv_goto (tgt := 104) hx hb dX3_plant_100 (by decide) ?_
              refine k_mci (As := [.int (iI 0)]) (rest := []) ⟨hx, hb, hml, hown, hts⟩ (m_refused l G ad cy hI σ 0 (by decide)) (cwV 1 hts gX3_plant_X3_refused rfl rfl rfl (by decide +kernel) ⟨Nat.le_of_ble_eq_true rfl, Nat.le_of_ble_eq_true rfl⟩) (mRecv hK hP) hAc hA hK hP hS rfl hl.1 rfl (Nat.le_of_ble_eq_true rfl) dX3_plant_104 ⟨Nat.zero_le _, Nat.zero_le _⟩ (fun H locs hP hS => ?_)
              refine k_if_eq (tgt := 112) hx hb dX3_plant_107 (by decide) (gNz_nB _) (fun _ => ?_) (fun c9 => absurd c9 (by decide))
              refine lv_aload_n hx hb dX3_plant_112 rfl (lv_at hl 2 rfl) ?_
              refine k_mg (v := .ref (ad 13)) hx hb hts hown hF3 hK hP 16 (by decide) lf46 dX3_plant_113 rfl rfl ?_
              refine lv_iload_n hx hb dX3_plant_116 rfl (lv_at hl 3 rfl) ?_
              refine lv_iload_n hx hb dX3_plant_117 rfl (lv_at hl 4 rfl) ?_
              refine k_mst (q := 13) (N := 8) (x := f) (v := c) hx hb hI hAc hK hP hS (by decide) rfl (by omega) (by omega) (by decide) dX3_plant_118 (fun H locs hP hS => ?_)
              refine lv_aload_n hx hb dX3_plant_119 rfl (lv_at hl 2 rfl) ?_
              refine k_mg (v := .ref (ad 14)) hx hb hts hown hF3 hK hP 17 (by decide) lf49 dX3_plant_120 rfl rfl ?_
              refine lv_iload_n hx hb dX3_plant_123 rfl (lv_at hl 3 rfl) ?_
              refine lv_iload_n hx hb dX3_plant_124 rfl (lv_at hl 5 rfl) ?_
              refine k_mst (q := 14) (N := 8) (x := f) (v := h) hx hb hI hAc hK hP hS (by decide) rfl (by omega) (by omega) (by decide) dX3_plant_125 (fun H locs hP hS => ?_)
              refine lv_aload_n hx hb dX3_plant_126 rfl (lv_at hl 2 rfl) ?_
              refine lv_iload_n hx hb dX3_plant_127 rfl (lv_at hl 3 rfl) ?_
              refine k_mci (As := [.int (iI f)]) (rest := []) ⟨hx, hb, hml, hown, hts⟩ (m_limitOf l G ad cy hI (up (up (up σ 0 0 0) 13 f.toNat c) 14 f.toNat h) f (by omega) (by omega) (by simp [up]; omega) (by simp [up]; omega)) (cwV 1 hts gX3_plant_X3_limitOf rfl rfl rfl (by decide +kernel) ⟨Nat.le_of_ble_eq_true rfl, Nat.le_of_ble_eq_true rfl⟩) (mRecv hK hP) hAc hA hK hP hS rfl hl.1 rfl (Nat.le_of_ble_eq_true rfl) dX3_plant_128 ⟨Nat.zero_le _, Nat.zero_le _⟩ (fun H locs hP hS => ?_)
              have eQ : qPlant σ f c h = 0 := by unfold qPlant; (repeat' split) <;> first | rfl | omega
              have eF : up (up (up σ 0 0 0) 13 f.toNat c) 14 f.toNat h = tOf (qPlant σ f c h) σ (up (up (up σ 0 0 0) 13 f.toNat c) 14 f.toNat h) := by (rw [tOf_0 eQ]); try (first | rfl | (simp only [up_s]; done) | (simp only [up_s]; repeat' split) <;> first | rfl | (exfalso; omega) | omega)
              rw [eF] at hP
              have eR : gLimit (up (up (up σ 0 0 0) 13 f.toNat c) 14 f.toNat h) f = rOf (qPlant σ f c h) (gLimit (up (up (up σ 0 0 0) 13 f.toNat c) 14 f.toNat h) f) := by (rw [rOf_0 eQ]); try (first | rfl | (simp only [up_s]; done) | (simp only [up_s]; repeat' split) <;> first | rfl | (exfalso; omega) | omega)
              exact W.iret hx hb hr (fun t ht hW => ⟨⟨_, _, rfl, ⟨congrArg iI eR, rfl⟩, by rw [ht]; exact hP, va_K.moved hW.alike hK⟩, hS.F ht⟩) hS.2.2 dX3_plant_131
            · have d_14 := c_14
              rw [gIn_0] at d_14
              refine k_iconst hx hb dX3_plant_90 ?_
              refine lv_goto (tgt := 104) hx hb dX3_plant_91 (by decide) ?_
              refine k_mci (As := [.int (iI 2)]) (rest := []) ⟨hx, hb, hml, hown, hts⟩ (m_refused l G ad cy hI σ 2 (by decide)) (cwV 1 hts gX3_plant_X3_refused rfl rfl rfl (by decide +kernel) ⟨Nat.le_of_ble_eq_true rfl, Nat.le_of_ble_eq_true rfl⟩) (mRecv hK hP) hAc hA hK hP hS rfl hl.1 rfl (Nat.le_of_ble_eq_true rfl) dX3_plant_104 ⟨Nat.zero_le _, Nat.zero_le _⟩ (fun H locs hP hS => ?_)
              refine k_if_eq (tgt := 112) hx hb dX3_plant_107 (by decide) (gNz_nB _) (fun c9 => absurd c9 (by decide)) (fun _ => ?_)
              refine k_iconst hx hb dX3_plant_110 ?_
              have eQ : qPlant σ f c h = 2 := by unfold qPlant; (repeat' split) <;> first | rfl | omega
              have eF : up σ 0 0 2 = tOf (qPlant σ f c h) σ (up (up (up σ 0 0 0) 13 f.toNat c) 14 f.toNat h) := by (rw [tOf_n eQ (by decide)]); try (rfl)
              rw [eF] at hP
              have eR : 0 = rOf (qPlant σ f c h) (gLimit (up (up (up σ 0 0 0) 13 f.toNat c) 14 f.toNat h) f) := by (rw [rOf_n eQ (by decide)]); try (rfl)
              exact W.iret hx hb hr (fun t ht hW => ⟨⟨_, _, rfl, ⟨congrArg iI eR, rfl⟩, by rw [ht]; exact hP, va_K.moved hW.alike hK⟩, hS.F ht⟩) hS.2.2 dX3_plant_111
          · refine lv_aload_n hx hb dX3_plant_53 rfl (lv_at hl 1 rfl) ?_
            refine k_mg (v := .ref (ad 7)) hx hb hts hown hF3 hK hP 10 (by decide) lf28 dX3_plant_54 rfl rfl ?_
            refine lv_iload_n hx hb dX3_plant_57 rfl (lv_at hl 2 rfl) ?_
            refine k_mld (q := 7) (N := 8) (x := f) hx hb hK hP (by decide) rfl (by omega) (by omega) (by decide) dX3_plant_58 ?_
            refine lv_iload_n hx hb dX3_plant_59 rfl (lv_at hl 3 rfl) ?_
            refine k_icmp_ne (tgt := 67) hx hb dX3_plant_60 (by decide) (by omega) (by omega) (fun c_17 => ?_) (fun c_17 => ?_)
            · refine k_iconst hx hb dX3_plant_67 ?_
              refine lv_istore (lv' := [(5, .int (iI 0)), (4, .int (iI 1)), (0, .ref (ad 0)), (1, .int (iI f)), (2, .int (iI c)), (3, .int (iI h))]) hx hb dX3_plant_68 hl (by decide) rfl (fun ls hl => ?_)
              refine lv_aload_n hx hb dX3_plant_70 rfl (lv_at hl 2 rfl) ?_
              refine lv_iload hx hb dX3_plant_71 (lv_at hl 1 rfl) ?_
              refine k_if_ne (tgt := 80) hx hb dX3_plant_73 (by decide) (by decide) (fun _ => ?_) (fun c9 => absurd c9 (by decide))
              refine lv_iload_n hx hb dX3_plant_80 rfl (lv_at hl 5 rfl) ?_
              refine k_iconst hx hb dX3_plant_81 ?_
              refine k_bipush hx hb dX3_plant_82 (by decide) ?_
              refine k_msi (As := [.int (iI h), .int (iI 1), .int (iI 50)]) (rest := [.ref (ad 0)]) ⟨hx, hb, hml, hown, hts⟩ (m_in l G ad cy hI σ h 1 50 (by omega) (by decide) (by decide)) (va_cwS 3 hts gX3_plant_X3_in rfl rfl rfl (by decide +kernel) ⟨Nat.le_of_ble_eq_true rfl, Nat.le_of_ble_eq_true rfl⟩) hAc hA hK hP hS rfl hl.1 rfl (Nat.le_of_ble_eq_true rfl) dX3_plant_84 ⟨Nat.zero_le _, Nat.zero_le _⟩ (fun H locs hP hS => ?_)
              refine k_if_ne (tgt := 94) hx hb dX3_plant_87 (by decide) (gIn_nB _ _ _) (fun c_18 => ?_) (fun c_18 => ?_)
              · have d_18 := c_18
                rw [gIn_0] at d_18
                refine lv_iload hx hb dX3_plant_94 (lv_at hl 0 rfl) ?_
                refine k_if_eq (tgt := 103) hx hb dX3_plant_96 (by decide) (by decide) (fun _ => ?_) (fun c9 => absurd c9 (by decide))
                refine k_iconst hx hb dX3_plant_103 ?_
                refine k_mci (As := [.int (iI 3)]) (rest := []) ⟨hx, hb, hml, hown, hts⟩ (m_refused l G ad cy hI σ 3 (by decide)) (cwV 1 hts gX3_plant_X3_refused rfl rfl rfl (by decide +kernel) ⟨Nat.le_of_ble_eq_true rfl, Nat.le_of_ble_eq_true rfl⟩) (mRecv hK hP) hAc hA hK hP hS rfl hl.1 rfl (Nat.le_of_ble_eq_true rfl) dX3_plant_104 ⟨Nat.zero_le _, Nat.zero_le _⟩ (fun H locs hP hS => ?_)
                refine k_if_eq (tgt := 112) hx hb dX3_plant_107 (by decide) (gNz_nB _) (fun c9 => absurd c9 (by decide)) (fun _ => ?_)
                refine k_iconst hx hb dX3_plant_110 ?_
                have eQ : qPlant σ f c h = 3 := by unfold qPlant; (repeat' split) <;> first | rfl | omega
                have eF : up σ 0 0 3 = tOf (qPlant σ f c h) σ (up (up (up σ 0 0 0) 13 f.toNat c) 14 f.toNat h) := by (rw [tOf_n eQ (by decide)]); try (rfl)
                rw [eF] at hP
                have eR : 0 = rOf (qPlant σ f c h) (gLimit (up (up (up σ 0 0 0) 13 f.toNat c) 14 f.toNat h) f) := by (rw [rOf_n eQ (by decide)]); try (rfl)
                exact W.iret hx hb hr (fun t ht hW => ⟨⟨_, _, rfl, ⟨congrArg iI eR, rfl⟩, by rw [ht]; exact hP, va_K.moved hW.alike hK⟩, hS.F ht⟩) hS.2.2 dX3_plant_111
              · have d_18 := c_18
                rw [gIn_0] at d_18
                refine k_iconst hx hb dX3_plant_90 ?_
                refine lv_goto (tgt := 104) hx hb dX3_plant_91 (by decide) ?_
                refine k_mci (As := [.int (iI 2)]) (rest := []) ⟨hx, hb, hml, hown, hts⟩ (m_refused l G ad cy hI σ 2 (by decide)) (cwV 1 hts gX3_plant_X3_refused rfl rfl rfl (by decide +kernel) ⟨Nat.le_of_ble_eq_true rfl, Nat.le_of_ble_eq_true rfl⟩) (mRecv hK hP) hAc hA hK hP hS rfl hl.1 rfl (Nat.le_of_ble_eq_true rfl) dX3_plant_104 ⟨Nat.zero_le _, Nat.zero_le _⟩ (fun H locs hP hS => ?_)
                refine k_if_eq (tgt := 112) hx hb dX3_plant_107 (by decide) (gNz_nB _) (fun c9 => absurd c9 (by decide)) (fun _ => ?_)
                refine k_iconst hx hb dX3_plant_110 ?_
                have eQ : qPlant σ f c h = 2 := by unfold qPlant; (repeat' split) <;> first | rfl | omega
                have eF : up σ 0 0 2 = tOf (qPlant σ f c h) σ (up (up (up σ 0 0 0) 13 f.toNat c) 14 f.toNat h) := by (rw [tOf_n eQ (by decide)]); try (rfl)
                rw [eF] at hP
                have eR : 0 = rOf (qPlant σ f c h) (gLimit (up (up (up σ 0 0 0) 13 f.toNat c) 14 f.toNat h) f) := by (rw [rOf_n eQ (by decide)]); try (rfl)
                exact W.iret hx hb hr (fun t ht hW => ⟨⟨_, _, rfl, ⟨congrArg iI eR, rfl⟩, by rw [ht]; exact hP, va_K.moved hW.alike hK⟩, hS.F ht⟩) hS.2.2 dX3_plant_111
            · refine k_iconst hx hb dX3_plant_63 ?_
              refine lv_goto (tgt := 68) hx hb dX3_plant_64 (by decide) ?_
              refine lv_istore (lv' := [(5, .int (iI 1)), (4, .int (iI 1)), (0, .ref (ad 0)), (1, .int (iI f)), (2, .int (iI c)), (3, .int (iI h))]) hx hb dX3_plant_68 hl (by decide) rfl (fun ls hl => ?_)
              refine lv_aload_n hx hb dX3_plant_70 rfl (lv_at hl 2 rfl) ?_
              refine lv_iload hx hb dX3_plant_71 (lv_at hl 1 rfl) ?_
              refine k_if_ne (tgt := 80) hx hb dX3_plant_73 (by decide) (by decide) (fun _ => ?_) (fun c9 => absurd c9 (by decide))
              refine lv_iload_n hx hb dX3_plant_80 rfl (lv_at hl 5 rfl) ?_
              refine k_iconst hx hb dX3_plant_81 ?_
              refine k_bipush hx hb dX3_plant_82 (by decide) ?_
              refine k_msi (As := [.int (iI h), .int (iI 1), .int (iI 50)]) (rest := [.ref (ad 0)]) ⟨hx, hb, hml, hown, hts⟩ (m_in l G ad cy hI σ h 1 50 (by omega) (by decide) (by decide)) (va_cwS 3 hts gX3_plant_X3_in rfl rfl rfl (by decide +kernel) ⟨Nat.le_of_ble_eq_true rfl, Nat.le_of_ble_eq_true rfl⟩) hAc hA hK hP hS rfl hl.1 rfl (Nat.le_of_ble_eq_true rfl) dX3_plant_84 ⟨Nat.zero_le _, Nat.zero_le _⟩ (fun H locs hP hS => ?_)
              refine k_if_ne (tgt := 94) hx hb dX3_plant_87 (by decide) (gIn_nB _ _ _) (fun c_21 => ?_) (fun c_21 => ?_)
              · have d_21 := c_21
                rw [gIn_0] at d_21
                refine lv_iload hx hb dX3_plant_94 (lv_at hl 0 rfl) ?_
                refine k_if_eq (tgt := 103) hx hb dX3_plant_96 (by decide) (by decide) (fun c9 => absurd c9 (by decide)) (fun _ => ?_)
                refine k_iconst hx hb dX3_plant_99 ?_
                refine lv_goto (tgt := 104) hx hb dX3_plant_100 (by decide) ?_
                refine k_mci (As := [.int (iI 0)]) (rest := []) ⟨hx, hb, hml, hown, hts⟩ (m_refused l G ad cy hI σ 0 (by decide)) (cwV 1 hts gX3_plant_X3_refused rfl rfl rfl (by decide +kernel) ⟨Nat.le_of_ble_eq_true rfl, Nat.le_of_ble_eq_true rfl⟩) (mRecv hK hP) hAc hA hK hP hS rfl hl.1 rfl (Nat.le_of_ble_eq_true rfl) dX3_plant_104 ⟨Nat.zero_le _, Nat.zero_le _⟩ (fun H locs hP hS => ?_)
                refine k_if_eq (tgt := 112) hx hb dX3_plant_107 (by decide) (gNz_nB _) (fun _ => ?_) (fun c9 => absurd c9 (by decide))
                refine lv_aload_n hx hb dX3_plant_112 rfl (lv_at hl 2 rfl) ?_
                refine k_mg (v := .ref (ad 13)) hx hb hts hown hF3 hK hP 16 (by decide) lf46 dX3_plant_113 rfl rfl ?_
                refine lv_iload_n hx hb dX3_plant_116 rfl (lv_at hl 3 rfl) ?_
                refine lv_iload_n hx hb dX3_plant_117 rfl (lv_at hl 4 rfl) ?_
                refine k_mst (q := 13) (N := 8) (x := f) (v := c) hx hb hI hAc hK hP hS (by decide) rfl (by omega) (by omega) (by decide) dX3_plant_118 (fun H locs hP hS => ?_)
                refine lv_aload_n hx hb dX3_plant_119 rfl (lv_at hl 2 rfl) ?_
                refine k_mg (v := .ref (ad 14)) hx hb hts hown hF3 hK hP 17 (by decide) lf49 dX3_plant_120 rfl rfl ?_
                refine lv_iload_n hx hb dX3_plant_123 rfl (lv_at hl 3 rfl) ?_
                refine lv_iload_n hx hb dX3_plant_124 rfl (lv_at hl 5 rfl) ?_
                refine k_mst (q := 14) (N := 8) (x := f) (v := h) hx hb hI hAc hK hP hS (by decide) rfl (by omega) (by omega) (by decide) dX3_plant_125 (fun H locs hP hS => ?_)
                refine lv_aload_n hx hb dX3_plant_126 rfl (lv_at hl 2 rfl) ?_
                refine lv_iload_n hx hb dX3_plant_127 rfl (lv_at hl 3 rfl) ?_
                refine k_mci (As := [.int (iI f)]) (rest := []) ⟨hx, hb, hml, hown, hts⟩ (m_limitOf l G ad cy hI (up (up (up σ 0 0 0) 13 f.toNat c) 14 f.toNat h) f (by omega) (by omega) (by simp [up]; omega) (by simp [up]; omega)) (cwV 1 hts gX3_plant_X3_limitOf rfl rfl rfl (by decide +kernel) ⟨Nat.le_of_ble_eq_true rfl, Nat.le_of_ble_eq_true rfl⟩) (mRecv hK hP) hAc hA hK hP hS rfl hl.1 rfl (Nat.le_of_ble_eq_true rfl) dX3_plant_128 ⟨Nat.zero_le _, Nat.zero_le _⟩ (fun H locs hP hS => ?_)
                have eQ : qPlant σ f c h = 0 := by unfold qPlant; (repeat' split) <;> first | rfl | omega
                have eF : up (up (up σ 0 0 0) 13 f.toNat c) 14 f.toNat h = tOf (qPlant σ f c h) σ (up (up (up σ 0 0 0) 13 f.toNat c) 14 f.toNat h) := by (rw [tOf_0 eQ]); try (first | rfl | (simp only [up_s]; done) | (simp only [up_s]; repeat' split) <;> first | rfl | (exfalso; omega) | omega)
                rw [eF] at hP
                have eR : gLimit (up (up (up σ 0 0 0) 13 f.toNat c) 14 f.toNat h) f = rOf (qPlant σ f c h) (gLimit (up (up (up σ 0 0 0) 13 f.toNat c) 14 f.toNat h) f) := by (rw [rOf_0 eQ]); try (first | rfl | (simp only [up_s]; done) | (simp only [up_s]; repeat' split) <;> first | rfl | (exfalso; omega) | omega)
                exact W.iret hx hb hr (fun t ht hW => ⟨⟨_, _, rfl, ⟨congrArg iI eR, rfl⟩, by rw [ht]; exact hP, va_K.moved hW.alike hK⟩, hS.F ht⟩) hS.2.2 dX3_plant_131
              · have d_21 := c_21
                rw [gIn_0] at d_21
                refine k_iconst hx hb dX3_plant_90 ?_
                refine lv_goto (tgt := 104) hx hb dX3_plant_91 (by decide) ?_
                refine k_mci (As := [.int (iI 2)]) (rest := []) ⟨hx, hb, hml, hown, hts⟩ (m_refused l G ad cy hI σ 2 (by decide)) (cwV 1 hts gX3_plant_X3_refused rfl rfl rfl (by decide +kernel) ⟨Nat.le_of_ble_eq_true rfl, Nat.le_of_ble_eq_true rfl⟩) (mRecv hK hP) hAc hA hK hP hS rfl hl.1 rfl (Nat.le_of_ble_eq_true rfl) dX3_plant_104 ⟨Nat.zero_le _, Nat.zero_le _⟩ (fun H locs hP hS => ?_)
                refine k_if_eq (tgt := 112) hx hb dX3_plant_107 (by decide) (gNz_nB _) (fun c9 => absurd c9 (by decide)) (fun _ => ?_)
                refine k_iconst hx hb dX3_plant_110 ?_
                have eQ : qPlant σ f c h = 2 := by unfold qPlant; (repeat' split) <;> first | rfl | omega
                have eF : up σ 0 0 2 = tOf (qPlant σ f c h) σ (up (up (up σ 0 0 0) 13 f.toNat c) 14 f.toNat h) := by (rw [tOf_n eQ (by decide)]); try (rfl)
                rw [eF] at hP
                have eR : 0 = rOf (qPlant σ f c h) (gLimit (up (up (up σ 0 0 0) 13 f.toNat c) 14 f.toNat h) f) := by (rw [rOf_n eQ (by decide)]); try (rfl)
                exact W.iret hx hb hr (fun t ht hW => ⟨⟨_, _, rfl, ⟨congrArg iI eR, rfl⟩, by rw [ht]; exact hP, va_K.moved hW.alike hK⟩, hS.F ht⟩) hS.2.2 dX3_plant_111
set_option maxHeartbeats 4000000 in
set_option maxRecDepth 100000 in
theorem m_cover (l : Launch) (G : va_G) (ad : Nat → Nat) (cy : Nat → ClassId) (hI : mI ad) (σ : Sg) (f x : Int) (hf : nB f) (hx : nB x) (hB : mBd σ) : mMi l yX3_cover wsX3_cover ({ frames := 2, cells := 0, slots := 0, locals := 43 } : Room) G ad cy [.ref (ad 0), .int (iI f), .int (iI x)] σ (rOf (qCover σ f x) (σ 16 f.toNat)) (tOf (qCover σ f x) σ (up (up σ 0 0 0) 16 f.toNat x)) := by
  intro sz
  refine Met.ofW (cc := cX3_cover) (maxL := 5) (ret := (some .int)) (by decide) rfl ?_
  intro p e s m args below meth cd s₁ B hml hv
  obtain ⟨rfl, hsz, hP, hK⟩ := hv
  have hx := B.exec
  have hb := B.bytes
  have hr := B.returns
  have hts := atoms_spec (ws := wsX3_cover) B.pre
  have hown : s.vm.findClass RX3 = some m.cls := findClass_of_methodNamed B.named
  have hlocks := B.notSynchronized
  subst hsz
  have hS : va_S (mA ad s.heap.size) s.heap s.heap [] := va_S.rf
  have hA : ∀ q, s.heap.size ≤ q → mA ad s.heap.size q := fun _ h => Or.inr h
  have hAc : ∀ j, j < 21 → mA ad s.heap.size (ad j) := fun j h => Or.inl ⟨j, h, rfl⟩
  have hl := lv_entry ([.ref (ad 0), .int (iI f), .int (iI x)]) (n := 5) (Nat.le_of_ble_eq_true rfl)
  rw [lg_entry_eq]
  generalize (lg_sl ([.ref (ad 0), .int (iI f), .int (iI x)]) ++ List.replicate (5 - (lg_sl ([.ref (ad 0), .int (iI f), .int (iI x)])).length) Slot.unset).toArray = ls at hl ⊢
  have hl : lv_has ls 5 [(0, .ref (ad 0)), (1, .int (iI f)), (2, .int (iI x))] := hl
  have hF3 : ∀ w ∈ wsX30, w ∈ wsX3_cover := by decide +kernel
  have lf101 := hts (.fieldLink RX3 101 "HarvestLenderModel" "stage" "I") (by decide +kernel)
  have lf46 := hts (.fieldLink RX3 46 "HarvestLenderModel" "crops" "[I") (by decide +kernel)
  have lf55 := hts (.fieldLink RX3 55 "HarvestLenderModel" "covers" "[I") (by decide +kernel)
  have hcnt := hB.1.1
  have hstg := hB.1.2.2
  have hsea := hB.1.2.1
  refine lv_aload_n hx hb dX3_cover_0 rfl (lv_at hl 0 rfl) ?_
  refine lv_iload_n hx hb dX3_cover_1 rfl (lv_at hl 1 rfl) ?_
  refine k_mci (As := [.int (iI f)]) (rest := []) ⟨hx, hb, hml, hown, hts⟩ (m_isFarmer l G ad cy hI σ f (by omega) hcnt) (cwV 1 hts gX3_cover_X3_isFarmer rfl rfl rfl (by decide +kernel) ⟨Nat.le_of_ble_eq_true rfl, Nat.le_of_ble_eq_true rfl⟩) (mRecv hK hP) hAc hA hK hP hS rfl hl.1 rfl (Nat.le_of_ble_eq_true rfl) dX3_cover_2 ⟨Nat.zero_le _, Nat.zero_le _⟩ (fun H locs hP hS => ?_)
  refine k_if_eq (tgt := 29) hx hb dX3_cover_5 (by decide) (gIn_nB _ _ _) (fun c_1 => ?_) (fun c_1 => ?_)
  · have d_1 := c_1
    rw [gIn_0] at d_1
    refine k_iconst hx hb dX3_cover_29 ?_
    refine lv_istore_n (lv' := [(3, .int (iI 0)), (0, .ref (ad 0)), (1, .int (iI f)), (2, .int (iI x))]) hx hb dX3_cover_30 rfl hl (by decide) rfl (fun ls hl => ?_)
    refine lv_aload_n hx hb dX3_cover_31 rfl (lv_at hl 1 rfl) ?_
    refine lv_aload_n hx hb dX3_cover_32 rfl (lv_at hl 1 rfl) ?_
    refine lv_iload_n hx hb dX3_cover_33 rfl (lv_at hl 2 rfl) ?_
    refine k_mci (As := [.int (iI f)]) (rest := [.ref (ad 0)]) ⟨hx, hb, hml, hown, hts⟩ (m_isFarmer l G ad cy hI σ f (by omega) hcnt) (cwV 1 hts gX3_cover_X3_isFarmer rfl rfl rfl (by decide +kernel) ⟨Nat.le_of_ble_eq_true rfl, Nat.le_of_ble_eq_true rfl⟩) (mRecv hK hP) hAc hA hK hP hS rfl hl.1 rfl (Nat.le_of_ble_eq_true rfl) dX3_cover_34 ⟨Nat.zero_le _, Nat.zero_le _⟩ (fun H locs hP hS => ?_)
    refine k_if_ne (tgt := 44) hx hb dX3_cover_37 (by decide) (gIn_nB _ _ _) (fun c9 => absurd c9 (by omega)) (fun _ => ?_)
    refine k_iconst hx hb dX3_cover_40 ?_
    refine lv_goto (tgt := 67) hx hb dX3_cover_41 (by decide) ?_
    refine k_mci (As := [.int (iI 1)]) (rest := []) ⟨hx, hb, hml, hown, hts⟩ (m_refused l G ad cy hI σ 1 (by decide)) (cwV 1 hts gX3_cover_X3_refused rfl rfl rfl (by decide +kernel) ⟨Nat.le_of_ble_eq_true rfl, Nat.le_of_ble_eq_true rfl⟩) (mRecv hK hP) hAc hA hK hP hS rfl hl.1 rfl (Nat.le_of_ble_eq_true rfl) dX3_cover_67 ⟨Nat.zero_le _, Nat.zero_le _⟩ (fun H locs hP hS => ?_)
    refine k_if_eq (tgt := 75) hx hb dX3_cover_70 (by decide) (gNz_nB _) (fun c9 => absurd c9 (by decide)) (fun _ => ?_)
    refine k_iconst hx hb dX3_cover_73 ?_
    have eQ : qCover σ f x = 1 := by unfold qCover; (repeat' split) <;> first | rfl | omega
    have eF : up σ 0 0 1 = tOf (qCover σ f x) σ (up (up σ 0 0 0) 16 f.toNat x) := by (rw [tOf_n eQ (by decide)]); try (rfl)
    rw [eF] at hP
    have eR : 0 = rOf (qCover σ f x) (σ 16 f.toNat) := by (rw [rOf_n eQ (by decide)]); try (rfl)
    exact W.iret hx hb hr (fun t ht hW => ⟨⟨_, _, rfl, ⟨congrArg iI eR, rfl⟩, by rw [ht]; exact hP, va_K.moved hW.alike hK⟩, hS.F ht⟩) hS.2.2 dX3_cover_74
  · have d_1 := c_1
    rw [gIn_0] at d_1
    obtain ⟨a5, a6, a7, a9, a10, a11, a13, a14, a15, a16, a17⟩ := hB.2.2 f.toNat (by omega)
    obtain ⟨b2, b3⟩ := hB.2.1.1 (σ 7 f.toNat).toNat (by omega)
    have gl := gLimit_b hB (f := f) (by omega) (by omega)
    refine lv_aload_n hx hb dX3_cover_8 rfl (lv_at hl 0 rfl) ?_
    refine k_mg (v := .int (iI (σ 0 2))) hx hb hts hown hF3 hK hP 2 (by decide) lf101 dX3_cover_9 rfl rfl ?_
    refine k_if_ne (tgt := 29) hx hb dX3_cover_12 (by decide) (by omega) (fun c_4 => ?_) (fun c_4 => ?_)
    · refine k_iconst hx hb dX3_cover_29 ?_
      refine lv_istore_n (lv' := [(3, .int (iI 0)), (0, .ref (ad 0)), (1, .int (iI f)), (2, .int (iI x))]) hx hb dX3_cover_30 rfl hl (by decide) rfl (fun ls hl => ?_)
      refine lv_aload_n hx hb dX3_cover_31 rfl (lv_at hl 1 rfl) ?_
      refine lv_aload_n hx hb dX3_cover_32 rfl (lv_at hl 1 rfl) ?_
      refine lv_iload_n hx hb dX3_cover_33 rfl (lv_at hl 2 rfl) ?_
      refine k_mci (As := [.int (iI f)]) (rest := [.ref (ad 0)]) ⟨hx, hb, hml, hown, hts⟩ (m_isFarmer l G ad cy hI σ f (by omega) hcnt) (cwV 1 hts gX3_cover_X3_isFarmer rfl rfl rfl (by decide +kernel) ⟨Nat.le_of_ble_eq_true rfl, Nat.le_of_ble_eq_true rfl⟩) (mRecv hK hP) hAc hA hK hP hS rfl hl.1 rfl (Nat.le_of_ble_eq_true rfl) dX3_cover_34 ⟨Nat.zero_le _, Nat.zero_le _⟩ (fun H locs hP hS => ?_)
      refine k_if_ne (tgt := 44) hx hb dX3_cover_37 (by decide) (gIn_nB _ _ _) (fun _ => ?_) (fun c9 => absurd c9 (by omega))
      refine lv_iload_n hx hb dX3_cover_44 rfl (lv_at hl 3 rfl) ?_
      refine k_iconst hx hb dX3_cover_45 ?_
      refine k_bipush hx hb dX3_cover_46 (by decide) ?_
      refine k_msi (As := [.int (iI x), .int (iI 1), .int (iI 90)]) (rest := [.ref (ad 0)]) ⟨hx, hb, hml, hown, hts⟩ (m_in l G ad cy hI σ x 1 90 (by omega) (by decide) (by decide)) (va_cwS 3 hts gX3_cover_X3_in rfl rfl rfl (by decide +kernel) ⟨Nat.le_of_ble_eq_true rfl, Nat.le_of_ble_eq_true rfl⟩) hAc hA hK hP hS rfl hl.1 rfl (Nat.le_of_ble_eq_true rfl) dX3_cover_48 ⟨Nat.zero_le _, Nat.zero_le _⟩ (fun H locs hP hS => ?_)
      refine k_if_ne (tgt := 58) hx hb dX3_cover_51 (by decide) (gIn_nB _ _ _) (fun c_6 => ?_) (fun c_6 => ?_)
      · have d_6 := c_6
        rw [gIn_0] at d_6
        refine lv_iload_n hx hb dX3_cover_58 rfl (lv_at hl 0 rfl) ?_
        refine k_if_eq (tgt := 66) hx hb dX3_cover_59 (by decide) (by decide) (fun _ => ?_) (fun c9 => absurd c9 (by decide))
        refine k_iconst hx hb dX3_cover_66 ?_
        refine k_mci (As := [.int (iI 3)]) (rest := []) ⟨hx, hb, hml, hown, hts⟩ (m_refused l G ad cy hI σ 3 (by decide)) (cwV 1 hts gX3_cover_X3_refused rfl rfl rfl (by decide +kernel) ⟨Nat.le_of_ble_eq_true rfl, Nat.le_of_ble_eq_true rfl⟩) (mRecv hK hP) hAc hA hK hP hS rfl hl.1 rfl (Nat.le_of_ble_eq_true rfl) dX3_cover_67 ⟨Nat.zero_le _, Nat.zero_le _⟩ (fun H locs hP hS => ?_)
        refine k_if_eq (tgt := 75) hx hb dX3_cover_70 (by decide) (gNz_nB _) (fun c9 => absurd c9 (by decide)) (fun _ => ?_)
        refine k_iconst hx hb dX3_cover_73 ?_
        have eQ : qCover σ f x = 3 := by unfold qCover; (repeat' split) <;> first | rfl | omega
        have eF : up σ 0 0 3 = tOf (qCover σ f x) σ (up (up σ 0 0 0) 16 f.toNat x) := by (rw [tOf_n eQ (by decide)]); try (rfl)
        rw [eF] at hP
        have eR : 0 = rOf (qCover σ f x) (σ 16 f.toNat) := by (rw [rOf_n eQ (by decide)]); try (rfl)
        exact W.iret hx hb hr (fun t ht hW => ⟨⟨_, _, rfl, ⟨congrArg iI eR, rfl⟩, by rw [ht]; exact hP, va_K.moved hW.alike hK⟩, hS.F ht⟩) hS.2.2 dX3_cover_74
      · have d_6 := c_6
        rw [gIn_0] at d_6
        refine k_iconst hx hb dX3_cover_54 ?_
        refine lv_goto (tgt := 67) hx hb dX3_cover_55 (by decide) ?_
        refine k_mci (As := [.int (iI 2)]) (rest := []) ⟨hx, hb, hml, hown, hts⟩ (m_refused l G ad cy hI σ 2 (by decide)) (cwV 1 hts gX3_cover_X3_refused rfl rfl rfl (by decide +kernel) ⟨Nat.le_of_ble_eq_true rfl, Nat.le_of_ble_eq_true rfl⟩) (mRecv hK hP) hAc hA hK hP hS rfl hl.1 rfl (Nat.le_of_ble_eq_true rfl) dX3_cover_67 ⟨Nat.zero_le _, Nat.zero_le _⟩ (fun H locs hP hS => ?_)
        refine k_if_eq (tgt := 75) hx hb dX3_cover_70 (by decide) (gNz_nB _) (fun c9 => absurd c9 (by decide)) (fun _ => ?_)
        refine k_iconst hx hb dX3_cover_73 ?_
        have eQ : qCover σ f x = 2 := by unfold qCover; (repeat' split) <;> first | rfl | omega
        have eF : up σ 0 0 2 = tOf (qCover σ f x) σ (up (up σ 0 0 0) 16 f.toNat x) := by (rw [tOf_n eQ (by decide)]); try (rfl)
        rw [eF] at hP
        have eR : 0 = rOf (qCover σ f x) (σ 16 f.toNat) := by (rw [rOf_n eQ (by decide)]); try (rfl)
        exact W.iret hx hb hr (fun t ht hW => ⟨⟨_, _, rfl, ⟨congrArg iI eR, rfl⟩, by rw [ht]; exact hP, va_K.moved hW.alike hK⟩, hS.F ht⟩) hS.2.2 dX3_cover_74
    · refine lv_aload_n hx hb dX3_cover_15 rfl (lv_at hl 0 rfl) ?_
      refine k_mg (v := .ref (ad 13)) hx hb hts hown hF3 hK hP 16 (by decide) lf46 dX3_cover_16 rfl rfl ?_
      refine lv_iload_n hx hb dX3_cover_19 rfl (lv_at hl 1 rfl) ?_
      refine k_mld (q := 13) (N := 8) (x := f) hx hb hK hP (by decide) rfl (by omega) (by omega) (by decide) dX3_cover_20 ?_
      refine k_iconst hx hb dX3_cover_21 ?_
      refine k_icmp_eq (tgt := 29) hx hb dX3_cover_22 (by decide) (by omega) (by decide) (fun c_9 => ?_) (fun c_9 => ?_)
      · refine k_iconst hx hb dX3_cover_29 ?_
        refine lv_istore_n (lv' := [(3, .int (iI 0)), (0, .ref (ad 0)), (1, .int (iI f)), (2, .int (iI x))]) hx hb dX3_cover_30 rfl hl (by decide) rfl (fun ls hl => ?_)
        refine lv_aload_n hx hb dX3_cover_31 rfl (lv_at hl 1 rfl) ?_
        refine lv_aload_n hx hb dX3_cover_32 rfl (lv_at hl 1 rfl) ?_
        refine lv_iload_n hx hb dX3_cover_33 rfl (lv_at hl 2 rfl) ?_
        refine k_mci (As := [.int (iI f)]) (rest := [.ref (ad 0)]) ⟨hx, hb, hml, hown, hts⟩ (m_isFarmer l G ad cy hI σ f (by omega) hcnt) (cwV 1 hts gX3_cover_X3_isFarmer rfl rfl rfl (by decide +kernel) ⟨Nat.le_of_ble_eq_true rfl, Nat.le_of_ble_eq_true rfl⟩) (mRecv hK hP) hAc hA hK hP hS rfl hl.1 rfl (Nat.le_of_ble_eq_true rfl) dX3_cover_34 ⟨Nat.zero_le _, Nat.zero_le _⟩ (fun H locs hP hS => ?_)
        refine k_if_ne (tgt := 44) hx hb dX3_cover_37 (by decide) (gIn_nB _ _ _) (fun _ => ?_) (fun c9 => absurd c9 (by omega))
        refine lv_iload_n hx hb dX3_cover_44 rfl (lv_at hl 3 rfl) ?_
        refine k_iconst hx hb dX3_cover_45 ?_
        refine k_bipush hx hb dX3_cover_46 (by decide) ?_
        refine k_msi (As := [.int (iI x), .int (iI 1), .int (iI 90)]) (rest := [.ref (ad 0)]) ⟨hx, hb, hml, hown, hts⟩ (m_in l G ad cy hI σ x 1 90 (by omega) (by decide) (by decide)) (va_cwS 3 hts gX3_cover_X3_in rfl rfl rfl (by decide +kernel) ⟨Nat.le_of_ble_eq_true rfl, Nat.le_of_ble_eq_true rfl⟩) hAc hA hK hP hS rfl hl.1 rfl (Nat.le_of_ble_eq_true rfl) dX3_cover_48 ⟨Nat.zero_le _, Nat.zero_le _⟩ (fun H locs hP hS => ?_)
        refine k_if_ne (tgt := 58) hx hb dX3_cover_51 (by decide) (gIn_nB _ _ _) (fun c_11 => ?_) (fun c_11 => ?_)
        · have d_11 := c_11
          rw [gIn_0] at d_11
          refine lv_iload_n hx hb dX3_cover_58 rfl (lv_at hl 0 rfl) ?_
          refine k_if_eq (tgt := 66) hx hb dX3_cover_59 (by decide) (by decide) (fun _ => ?_) (fun c9 => absurd c9 (by decide))
          refine k_iconst hx hb dX3_cover_66 ?_
          refine k_mci (As := [.int (iI 3)]) (rest := []) ⟨hx, hb, hml, hown, hts⟩ (m_refused l G ad cy hI σ 3 (by decide)) (cwV 1 hts gX3_cover_X3_refused rfl rfl rfl (by decide +kernel) ⟨Nat.le_of_ble_eq_true rfl, Nat.le_of_ble_eq_true rfl⟩) (mRecv hK hP) hAc hA hK hP hS rfl hl.1 rfl (Nat.le_of_ble_eq_true rfl) dX3_cover_67 ⟨Nat.zero_le _, Nat.zero_le _⟩ (fun H locs hP hS => ?_)
          refine k_if_eq (tgt := 75) hx hb dX3_cover_70 (by decide) (gNz_nB _) (fun c9 => absurd c9 (by decide)) (fun _ => ?_)
          refine k_iconst hx hb dX3_cover_73 ?_
          have eQ : qCover σ f x = 3 := by unfold qCover; (repeat' split) <;> first | rfl | omega
          have eF : up σ 0 0 3 = tOf (qCover σ f x) σ (up (up σ 0 0 0) 16 f.toNat x) := by (rw [tOf_n eQ (by decide)]); try (rfl)
          rw [eF] at hP
          have eR : 0 = rOf (qCover σ f x) (σ 16 f.toNat) := by (rw [rOf_n eQ (by decide)]); try (rfl)
          exact W.iret hx hb hr (fun t ht hW => ⟨⟨_, _, rfl, ⟨congrArg iI eR, rfl⟩, by rw [ht]; exact hP, va_K.moved hW.alike hK⟩, hS.F ht⟩) hS.2.2 dX3_cover_74
        · have d_11 := c_11
          rw [gIn_0] at d_11
          refine k_iconst hx hb dX3_cover_54 ?_
          refine lv_goto (tgt := 67) hx hb dX3_cover_55 (by decide) ?_
          refine k_mci (As := [.int (iI 2)]) (rest := []) ⟨hx, hb, hml, hown, hts⟩ (m_refused l G ad cy hI σ 2 (by decide)) (cwV 1 hts gX3_cover_X3_refused rfl rfl rfl (by decide +kernel) ⟨Nat.le_of_ble_eq_true rfl, Nat.le_of_ble_eq_true rfl⟩) (mRecv hK hP) hAc hA hK hP hS rfl hl.1 rfl (Nat.le_of_ble_eq_true rfl) dX3_cover_67 ⟨Nat.zero_le _, Nat.zero_le _⟩ (fun H locs hP hS => ?_)
          refine k_if_eq (tgt := 75) hx hb dX3_cover_70 (by decide) (gNz_nB _) (fun c9 => absurd c9 (by decide)) (fun _ => ?_)
          refine k_iconst hx hb dX3_cover_73 ?_
          have eQ : qCover σ f x = 2 := by unfold qCover; (repeat' split) <;> first | rfl | omega
          have eF : up σ 0 0 2 = tOf (qCover σ f x) σ (up (up σ 0 0 0) 16 f.toNat x) := by (rw [tOf_n eQ (by decide)]); try (rfl)
          rw [eF] at hP
          have eR : 0 = rOf (qCover σ f x) (σ 16 f.toNat) := by (rw [rOf_n eQ (by decide)]); try (rfl)
          exact W.iret hx hb hr (fun t ht hW => ⟨⟨_, _, rfl, ⟨congrArg iI eR, rfl⟩, by rw [ht]; exact hP, va_K.moved hW.alike hK⟩, hS.F ht⟩) hS.2.2 dX3_cover_74
      · refine k_iconst hx hb dX3_cover_25 ?_
        refine lv_goto (tgt := 30) hx hb dX3_cover_26 (by decide) ?_
        refine lv_istore_n (lv' := [(3, .int (iI 1)), (0, .ref (ad 0)), (1, .int (iI f)), (2, .int (iI x))]) hx hb dX3_cover_30 rfl hl (by decide) rfl (fun ls hl => ?_)
        refine lv_aload_n hx hb dX3_cover_31 rfl (lv_at hl 1 rfl) ?_
        refine lv_aload_n hx hb dX3_cover_32 rfl (lv_at hl 1 rfl) ?_
        refine lv_iload_n hx hb dX3_cover_33 rfl (lv_at hl 2 rfl) ?_
        refine k_mci (As := [.int (iI f)]) (rest := [.ref (ad 0)]) ⟨hx, hb, hml, hown, hts⟩ (m_isFarmer l G ad cy hI σ f (by omega) hcnt) (cwV 1 hts gX3_cover_X3_isFarmer rfl rfl rfl (by decide +kernel) ⟨Nat.le_of_ble_eq_true rfl, Nat.le_of_ble_eq_true rfl⟩) (mRecv hK hP) hAc hA hK hP hS rfl hl.1 rfl (Nat.le_of_ble_eq_true rfl) dX3_cover_34 ⟨Nat.zero_le _, Nat.zero_le _⟩ (fun H locs hP hS => ?_)
        refine k_if_ne (tgt := 44) hx hb dX3_cover_37 (by decide) (gIn_nB _ _ _) (fun _ => ?_) (fun c9 => absurd c9 (by omega))
        refine lv_iload_n hx hb dX3_cover_44 rfl (lv_at hl 3 rfl) ?_
        refine k_iconst hx hb dX3_cover_45 ?_
        refine k_bipush hx hb dX3_cover_46 (by decide) ?_
        refine k_msi (As := [.int (iI x), .int (iI 1), .int (iI 90)]) (rest := [.ref (ad 0)]) ⟨hx, hb, hml, hown, hts⟩ (m_in l G ad cy hI σ x 1 90 (by omega) (by decide) (by decide)) (va_cwS 3 hts gX3_cover_X3_in rfl rfl rfl (by decide +kernel) ⟨Nat.le_of_ble_eq_true rfl, Nat.le_of_ble_eq_true rfl⟩) hAc hA hK hP hS rfl hl.1 rfl (Nat.le_of_ble_eq_true rfl) dX3_cover_48 ⟨Nat.zero_le _, Nat.zero_le _⟩ (fun H locs hP hS => ?_)
        refine k_if_ne (tgt := 58) hx hb dX3_cover_51 (by decide) (gIn_nB _ _ _) (fun c_15 => ?_) (fun c_15 => ?_)
        · have d_15 := c_15
          rw [gIn_0] at d_15
          refine lv_iload_n hx hb dX3_cover_58 rfl (lv_at hl 0 rfl) ?_
          refine k_if_eq (tgt := 66) hx hb dX3_cover_59 (by decide) (by decide) (fun c9 => absurd c9 (by decide)) (fun _ => ?_)
          refine k_iconst hx hb dX3_cover_62 ?_
          refine lv_goto (tgt := 67) hx hb dX3_cover_63 (by decide) ?_
          refine k_mci (As := [.int (iI 0)]) (rest := []) ⟨hx, hb, hml, hown, hts⟩ (m_refused l G ad cy hI σ 0 (by decide)) (cwV 1 hts gX3_cover_X3_refused rfl rfl rfl (by decide +kernel) ⟨Nat.le_of_ble_eq_true rfl, Nat.le_of_ble_eq_true rfl⟩) (mRecv hK hP) hAc hA hK hP hS rfl hl.1 rfl (Nat.le_of_ble_eq_true rfl) dX3_cover_67 ⟨Nat.zero_le _, Nat.zero_le _⟩ (fun H locs hP hS => ?_)
          refine k_if_eq (tgt := 75) hx hb dX3_cover_70 (by decide) (gNz_nB _) (fun _ => ?_) (fun c9 => absurd c9 (by decide))
          refine lv_aload_n hx hb dX3_cover_75 rfl (lv_at hl 1 rfl) ?_
          refine k_mg (v := .ref (ad 16)) hx hb hts hown hF3 hK hP 19 (by decide) lf55 dX3_cover_76 rfl rfl ?_
          refine lv_iload_n hx hb dX3_cover_79 rfl (lv_at hl 2 rfl) ?_
          refine k_mld (q := 16) (N := 8) (x := f) hx hb hK hP (by decide) rfl (by omega) (by omega) (by decide) dX3_cover_80 ?_
          rw [show (up σ 0 0 0) 16 (f).toNat = σ 16 f.toNat by simp [up]]
          refine lv_istore (lv' := [(4, .int (iI (σ 16 f.toNat))), (3, .int (iI 1)), (0, .ref (ad 0)), (1, .int (iI f)), (2, .int (iI x))]) hx hb dX3_cover_81 hl (by decide) rfl (fun ls hl => ?_)
          refine lv_aload_n hx hb dX3_cover_83 rfl (lv_at hl 2 rfl) ?_
          refine k_mg (v := .ref (ad 16)) hx hb hts hown hF3 hK hP 19 (by decide) lf55 dX3_cover_84 rfl rfl ?_
          refine lv_iload_n hx hb dX3_cover_87 rfl (lv_at hl 3 rfl) ?_
          refine lv_iload_n hx hb dX3_cover_88 rfl (lv_at hl 4 rfl) ?_
          refine k_mst (q := 16) (N := 8) (x := f) (v := x) hx hb hI hAc hK hP hS (by decide) rfl (by omega) (by omega) (by decide) dX3_cover_89 (fun H locs hP hS => ?_)
          refine lv_iload hx hb dX3_cover_90 (lv_at hl 0 rfl) ?_
          have eQ : qCover σ f x = 0 := by unfold qCover; (repeat' split) <;> first | rfl | omega
          have eF : up (up σ 0 0 0) 16 f.toNat x = tOf (qCover σ f x) σ (up (up σ 0 0 0) 16 f.toNat x) := by (rw [tOf_0 eQ]); try (first | rfl | (simp only [up_s]; done) | (simp only [up_s]; repeat' split) <;> first | rfl | (exfalso; omega) | omega)
          rw [eF] at hP
          have eR : σ 16 f.toNat = rOf (qCover σ f x) (σ 16 f.toNat) := by (rw [rOf_0 eQ]); try (first | rfl | (simp only [up_s]; done) | (simp only [up_s]; repeat' split) <;> first | rfl | (exfalso; omega) | omega)
          exact W.iret hx hb hr (fun t ht hW => ⟨⟨_, _, rfl, ⟨congrArg iI eR, rfl⟩, by rw [ht]; exact hP, va_K.moved hW.alike hK⟩, hS.F ht⟩) hS.2.2 dX3_cover_92
        · have d_15 := c_15
          rw [gIn_0] at d_15
          refine k_iconst hx hb dX3_cover_54 ?_
          refine lv_goto (tgt := 67) hx hb dX3_cover_55 (by decide) ?_
          refine k_mci (As := [.int (iI 2)]) (rest := []) ⟨hx, hb, hml, hown, hts⟩ (m_refused l G ad cy hI σ 2 (by decide)) (cwV 1 hts gX3_cover_X3_refused rfl rfl rfl (by decide +kernel) ⟨Nat.le_of_ble_eq_true rfl, Nat.le_of_ble_eq_true rfl⟩) (mRecv hK hP) hAc hA hK hP hS rfl hl.1 rfl (Nat.le_of_ble_eq_true rfl) dX3_cover_67 ⟨Nat.zero_le _, Nat.zero_le _⟩ (fun H locs hP hS => ?_)
          refine k_if_eq (tgt := 75) hx hb dX3_cover_70 (by decide) (gNz_nB _) (fun c9 => absurd c9 (by decide)) (fun _ => ?_)
          refine k_iconst hx hb dX3_cover_73 ?_
          have eQ : qCover σ f x = 2 := by unfold qCover; (repeat' split) <;> first | rfl | omega
          have eF : up σ 0 0 2 = tOf (qCover σ f x) σ (up (up σ 0 0 0) 16 f.toNat x) := by (rw [tOf_n eQ (by decide)]); try (rfl)
          rw [eF] at hP
          have eR : 0 = rOf (qCover σ f x) (σ 16 f.toNat) := by (rw [rOf_n eQ (by decide)]); try (rfl)
          exact W.iret hx hb hr (fun t ht hW => ⟨⟨_, _, rfl, ⟨congrArg iI eR, rfl⟩, by rw [ht]; exact hP, va_K.moved hW.alike hK⟩, hS.F ht⟩) hS.2.2 dX3_cover_74
set_option maxHeartbeats 4000000 in
set_option maxRecDepth 100000 in
theorem m_draw (l : Launch) (G : va_G) (ad : Nat → Nat) (cy : Nat → ClassId) (hI : mI ad) (σ : Sg) (f x : Int) (hf : nB f) (hx : nB x) (hB : mBd σ) : mMi l yX3_draw wsX3_draw ({ frames := 2, cells := 0, slots := 0, locals := 43 } : Room) G ad cy [.ref (ad 0), .int (iI f), .int (iI x)] σ (rOf (qDraw σ f x) (gLimit (gCharge (up (up σ 0 0 0) 15 f.toNat (σ 15 f.toNat + x)) f x) f - (σ 15 f.toNat + x))) (tOf (qDraw σ f x) σ (gCharge (up (up σ 0 0 0) 15 f.toNat (σ 15 f.toNat + x)) f x)) := by
  intro sz
  refine Met.ofW (cc := cX3_draw) (maxL := 5) (ret := (some .int)) (by decide) rfl ?_
  intro p e s m args below meth cd s₁ B hml hv
  obtain ⟨rfl, hsz, hP, hK⟩ := hv
  have hx := B.exec
  have hb := B.bytes
  have hr := B.returns
  have hts := atoms_spec (ws := wsX3_draw) B.pre
  have hown : s.vm.findClass RX3 = some m.cls := findClass_of_methodNamed B.named
  have hlocks := B.notSynchronized
  subst hsz
  have hS : va_S (mA ad s.heap.size) s.heap s.heap [] := va_S.rf
  have hA : ∀ q, s.heap.size ≤ q → mA ad s.heap.size q := fun _ h => Or.inr h
  have hAc : ∀ j, j < 21 → mA ad s.heap.size (ad j) := fun j h => Or.inl ⟨j, h, rfl⟩
  have hl := lv_entry ([.ref (ad 0), .int (iI f), .int (iI x)]) (n := 5) (Nat.le_of_ble_eq_true rfl)
  rw [lg_entry_eq]
  generalize (lg_sl ([.ref (ad 0), .int (iI f), .int (iI x)]) ++ List.replicate (5 - (lg_sl ([.ref (ad 0), .int (iI f), .int (iI x)])).length) Slot.unset).toArray = ls at hl ⊢
  have hl : lv_has ls 5 [(0, .ref (ad 0)), (1, .int (iI f)), (2, .int (iI x))] := hl
  have hF3 : ∀ w ∈ wsX30, w ∈ wsX3_draw := by decide +kernel
  have lc110 := hts (.constant RX3 110 (100000000)) (by decide +kernel)
  have lf101 := hts (.fieldLink RX3 101 "HarvestLenderModel" "stage" "I") (by decide +kernel)
  have lf52 := hts (.fieldLink RX3 52 "HarvestLenderModel" "drawn" "[I") (by decide +kernel)
  have hcnt := hB.1.1
  have hstg := hB.1.2.2
  have hsea := hB.1.2.1
  refine lv_aload_n hx hb dX3_draw_0 rfl (lv_at hl 0 rfl) ?_
  refine lv_iload_n hx hb dX3_draw_1 rfl (lv_at hl 1 rfl) ?_
  refine k_mci (As := [.int (iI f)]) (rest := []) ⟨hx, hb, hml, hown, hts⟩ (m_isFarmer l G ad cy hI σ f (by omega) hcnt) (cwV 1 hts gX3_draw_X3_isFarmer rfl rfl rfl (by decide +kernel) ⟨Nat.le_of_ble_eq_true rfl, Nat.le_of_ble_eq_true rfl⟩) (mRecv hK hP) hAc hA hK hP hS rfl hl.1 rfl (Nat.le_of_ble_eq_true rfl) dX3_draw_2 ⟨Nat.zero_le _, Nat.zero_le _⟩ (fun H locs hP hS => ?_)
  refine k_if_eq (tgt := 22) hx hb dX3_draw_5 (by decide) (gIn_nB _ _ _) (fun c_1 => ?_) (fun c_1 => ?_)
  · have d_1 := c_1
    rw [gIn_0] at d_1
    refine k_iconst hx hb dX3_draw_22 ?_
    refine lv_istore_n (lv' := [(3, .int (iI 0)), (0, .ref (ad 0)), (1, .int (iI f)), (2, .int (iI x))]) hx hb dX3_draw_23 rfl hl (by decide) rfl (fun ls hl => ?_)
    refine lv_iload_n hx hb dX3_draw_24 rfl (lv_at hl 0 rfl) ?_
    refine k_if_eq (tgt := 56) hx hb dX3_draw_25 (by decide) (by decide) (fun _ => ?_) (fun c9 => absurd c9 (by decide))
    refine k_iconst hx hb dX3_draw_56 ?_
    refine lv_istore (lv' := [(4, .int (iI 0)), (3, .int (iI 0)), (0, .ref (ad 0)), (1, .int (iI f)), (2, .int (iI x))]) hx hb dX3_draw_57 hl (by decide) rfl (fun ls hl => ?_)
    refine lv_aload_n hx hb dX3_draw_59 rfl (lv_at hl 2 rfl) ?_
    refine lv_aload_n hx hb dX3_draw_60 rfl (lv_at hl 2 rfl) ?_
    refine lv_iload_n hx hb dX3_draw_61 rfl (lv_at hl 3 rfl) ?_
    refine k_mci (As := [.int (iI f)]) (rest := [.ref (ad 0)]) ⟨hx, hb, hml, hown, hts⟩ (m_isFarmer l G ad cy hI σ f (by omega) hcnt) (cwV 1 hts gX3_draw_X3_isFarmer rfl rfl rfl (by decide +kernel) ⟨Nat.le_of_ble_eq_true rfl, Nat.le_of_ble_eq_true rfl⟩) (mRecv hK hP) hAc hA hK hP hS rfl hl.1 rfl (Nat.le_of_ble_eq_true rfl) dX3_draw_62 ⟨Nat.zero_le _, Nat.zero_le _⟩ (fun H locs hP hS => ?_)
    refine k_if_ne (tgt := 72) hx hb dX3_draw_65 (by decide) (gIn_nB _ _ _) (fun c9 => absurd c9 (by omega)) (fun _ => ?_)
    refine k_iconst hx hb dX3_draw_68 ?_
    refine lv_goto (tgt := 90) hx hb dX3_draw_69 (by decide) ?_
    refine k_mci (As := [.int (iI 1)]) (rest := []) ⟨hx, hb, hml, hown, hts⟩ (m_refused l G ad cy hI σ 1 (by decide)) (cwV 1 hts gX3_draw_X3_refused rfl rfl rfl (by decide +kernel) ⟨Nat.le_of_ble_eq_true rfl, Nat.le_of_ble_eq_true rfl⟩) (mRecv hK hP) hAc hA hK hP hS rfl hl.1 rfl (Nat.le_of_ble_eq_true rfl) dX3_draw_90 ⟨Nat.zero_le _, Nat.zero_le _⟩ (fun H locs hP hS => ?_)
    refine k_if_eq (tgt := 98) hx hb dX3_draw_93 (by decide) (gNz_nB _) (fun c9 => absurd c9 (by decide)) (fun _ => ?_)
    refine k_iconst hx hb dX3_draw_96 ?_
    have eQ : qDraw σ f x = 1 := by unfold qDraw; (repeat' split) <;> first | rfl | omega
    have eF : up σ 0 0 1 = tOf (qDraw σ f x) σ (gCharge (up (up σ 0 0 0) 15 f.toNat (σ 15 f.toNat + x)) f x) := by (rw [tOf_n eQ (by decide)]); try (rfl)
    rw [eF] at hP
    have eR : 0 = rOf (qDraw σ f x) (gLimit (gCharge (up (up σ 0 0 0) 15 f.toNat (σ 15 f.toNat + x)) f x) f - (σ 15 f.toNat + x)) := by (rw [rOf_n eQ (by decide)]); try (rfl)
    exact W.iret hx hb hr (fun t ht hW => ⟨⟨_, _, rfl, ⟨congrArg iI eR, rfl⟩, by rw [ht]; exact hP, va_K.moved hW.alike hK⟩, hS.F ht⟩) hS.2.2 dX3_draw_97
  · have d_1 := c_1
    rw [gIn_0] at d_1
    obtain ⟨a5, a6, a7, a9, a10, a11, a13, a14, a15, a16, a17⟩ := hB.2.2 f.toNat (by omega)
    obtain ⟨b2, b3⟩ := hB.2.1.1 (σ 7 f.toNat).toNat (by omega)
    have gl := gLimit_b hB (f := f) (by omega) (by omega)
    refine lv_iload_n hx hb dX3_draw_8 rfl (lv_at hl 2 rfl) ?_
    refine k_iconst hx hb dX3_draw_9 ?_
    refine k_ldc hx hb (100000000) hown lc110 (by decide) dX3_draw_10 ?_
    refine k_msi (As := [.int (iI x), .int (iI 1), .int (iI 100000000)]) (rest := []) ⟨hx, hb, hml, hown, hts⟩ (m_in l G ad cy hI σ x 1 100000000 (by omega) (by decide) (by decide)) (va_cwS 3 hts gX3_draw_X3_in rfl rfl rfl (by decide +kernel) ⟨Nat.le_of_ble_eq_true rfl, Nat.le_of_ble_eq_true rfl⟩) hAc hA hK hP hS rfl hl.1 rfl (Nat.le_of_ble_eq_true rfl) dX3_draw_12 ⟨Nat.zero_le _, Nat.zero_le _⟩ (fun H locs hP hS => ?_)
    refine k_if_eq (tgt := 22) hx hb dX3_draw_15 (by decide) (gIn_nB _ _ _) (fun c_4 => ?_) (fun c_4 => ?_)
    · have d_4 := c_4
      rw [gIn_0] at d_4
      refine k_iconst hx hb dX3_draw_22 ?_
      refine lv_istore_n (lv' := [(3, .int (iI 0)), (0, .ref (ad 0)), (1, .int (iI f)), (2, .int (iI x))]) hx hb dX3_draw_23 rfl hl (by decide) rfl (fun ls hl => ?_)
      refine lv_iload_n hx hb dX3_draw_24 rfl (lv_at hl 0 rfl) ?_
      refine k_if_eq (tgt := 56) hx hb dX3_draw_25 (by decide) (by decide) (fun _ => ?_) (fun c9 => absurd c9 (by decide))
      refine k_iconst hx hb dX3_draw_56 ?_
      refine lv_istore (lv' := [(4, .int (iI 0)), (3, .int (iI 0)), (0, .ref (ad 0)), (1, .int (iI f)), (2, .int (iI x))]) hx hb dX3_draw_57 hl (by decide) rfl (fun ls hl => ?_)
      refine lv_aload_n hx hb dX3_draw_59 rfl (lv_at hl 2 rfl) ?_
      refine lv_aload_n hx hb dX3_draw_60 rfl (lv_at hl 2 rfl) ?_
      refine lv_iload_n hx hb dX3_draw_61 rfl (lv_at hl 3 rfl) ?_
      refine k_mci (As := [.int (iI f)]) (rest := [.ref (ad 0)]) ⟨hx, hb, hml, hown, hts⟩ (m_isFarmer l G ad cy hI σ f (by omega) hcnt) (cwV 1 hts gX3_draw_X3_isFarmer rfl rfl rfl (by decide +kernel) ⟨Nat.le_of_ble_eq_true rfl, Nat.le_of_ble_eq_true rfl⟩) (mRecv hK hP) hAc hA hK hP hS rfl hl.1 rfl (Nat.le_of_ble_eq_true rfl) dX3_draw_62 ⟨Nat.zero_le _, Nat.zero_le _⟩ (fun H locs hP hS => ?_)
      refine k_if_ne (tgt := 72) hx hb dX3_draw_65 (by decide) (gIn_nB _ _ _) (fun _ => ?_) (fun c9 => absurd c9 (by omega))
      refine lv_iload_n hx hb dX3_draw_72 rfl (lv_at hl 1 rfl) ?_
      refine k_if_ne (tgt := 80) hx hb dX3_draw_73 (by decide) (by decide) (fun c9 => absurd c9 (by decide)) (fun _ => ?_)
      refine k_iconst hx hb dX3_draw_76 ?_
      refine lv_goto (tgt := 90) hx hb dX3_draw_77 (by decide) ?_
      refine k_mci (As := [.int (iI 2)]) (rest := []) ⟨hx, hb, hml, hown, hts⟩ (m_refused l G ad cy hI σ 2 (by decide)) (cwV 1 hts gX3_draw_X3_refused rfl rfl rfl (by decide +kernel) ⟨Nat.le_of_ble_eq_true rfl, Nat.le_of_ble_eq_true rfl⟩) (mRecv hK hP) hAc hA hK hP hS rfl hl.1 rfl (Nat.le_of_ble_eq_true rfl) dX3_draw_90 ⟨Nat.zero_le _, Nat.zero_le _⟩ (fun H locs hP hS => ?_)
      refine k_if_eq (tgt := 98) hx hb dX3_draw_93 (by decide) (gNz_nB _) (fun c9 => absurd c9 (by decide)) (fun _ => ?_)
      refine k_iconst hx hb dX3_draw_96 ?_
      have eQ : qDraw σ f x = 2 := by unfold qDraw; (repeat' split) <;> first | rfl | omega
      have eF : up σ 0 0 2 = tOf (qDraw σ f x) σ (gCharge (up (up σ 0 0 0) 15 f.toNat (σ 15 f.toNat + x)) f x) := by (rw [tOf_n eQ (by decide)]); try (rfl)
      rw [eF] at hP
      have eR : 0 = rOf (qDraw σ f x) (gLimit (gCharge (up (up σ 0 0 0) 15 f.toNat (σ 15 f.toNat + x)) f x) f - (σ 15 f.toNat + x)) := by (rw [rOf_n eQ (by decide)]); try (rfl)
      exact W.iret hx hb hr (fun t ht hW => ⟨⟨_, _, rfl, ⟨congrArg iI eR, rfl⟩, by rw [ht]; exact hP, va_K.moved hW.alike hK⟩, hS.F ht⟩) hS.2.2 dX3_draw_97
    · have d_4 := c_4
      rw [gIn_0] at d_4
      refine k_iconst hx hb dX3_draw_18 ?_
      refine lv_goto (tgt := 23) hx hb dX3_draw_19 (by decide) ?_
      refine lv_istore_n (lv' := [(3, .int (iI 1)), (0, .ref (ad 0)), (1, .int (iI f)), (2, .int (iI x))]) hx hb dX3_draw_23 rfl hl (by decide) rfl (fun ls hl => ?_)
      refine lv_iload_n hx hb dX3_draw_24 rfl (lv_at hl 0 rfl) ?_
      refine k_if_eq (tgt := 56) hx hb dX3_draw_25 (by decide) (by decide) (fun c9 => absurd c9 (by decide)) (fun _ => ?_)
      refine lv_aload_n hx hb dX3_draw_28 rfl (lv_at hl 1 rfl) ?_
      refine k_mg (v := .int (iI (σ 0 2))) hx hb hts hown hF3 hK hP 2 (by decide) lf101 dX3_draw_29 rfl rfl ?_
      refine k_iconst hx hb dX3_draw_32 ?_
      refine k_icmp_ge (tgt := 56) hx hb dX3_draw_33 (by decide) (by omega) (by decide) (fun c_7 => ?_) (fun c_7 => ?_)
      · refine k_iconst hx hb dX3_draw_56 ?_
        refine lv_istore (lv' := [(4, .int (iI 0)), (3, .int (iI 1)), (0, .ref (ad 0)), (1, .int (iI f)), (2, .int (iI x))]) hx hb dX3_draw_57 hl (by decide) rfl (fun ls hl => ?_)
        refine lv_aload_n hx hb dX3_draw_59 rfl (lv_at hl 2 rfl) ?_
        refine lv_aload_n hx hb dX3_draw_60 rfl (lv_at hl 2 rfl) ?_
        refine lv_iload_n hx hb dX3_draw_61 rfl (lv_at hl 3 rfl) ?_
        refine k_mci (As := [.int (iI f)]) (rest := [.ref (ad 0)]) ⟨hx, hb, hml, hown, hts⟩ (m_isFarmer l G ad cy hI σ f (by omega) hcnt) (cwV 1 hts gX3_draw_X3_isFarmer rfl rfl rfl (by decide +kernel) ⟨Nat.le_of_ble_eq_true rfl, Nat.le_of_ble_eq_true rfl⟩) (mRecv hK hP) hAc hA hK hP hS rfl hl.1 rfl (Nat.le_of_ble_eq_true rfl) dX3_draw_62 ⟨Nat.zero_le _, Nat.zero_le _⟩ (fun H locs hP hS => ?_)
        refine k_if_ne (tgt := 72) hx hb dX3_draw_65 (by decide) (gIn_nB _ _ _) (fun _ => ?_) (fun c9 => absurd c9 (by omega))
        refine lv_iload_n hx hb dX3_draw_72 rfl (lv_at hl 1 rfl) ?_
        refine k_if_ne (tgt := 80) hx hb dX3_draw_73 (by decide) (by decide) (fun _ => ?_) (fun c9 => absurd c9 (by decide))
        refine lv_iload hx hb dX3_draw_80 (lv_at hl 0 rfl) ?_
        refine k_if_eq (tgt := 89) hx hb dX3_draw_82 (by decide) (by decide) (fun _ => ?_) (fun c9 => absurd c9 (by decide))
        refine k_iconst hx hb dX3_draw_89 ?_
        refine k_mci (As := [.int (iI 3)]) (rest := []) ⟨hx, hb, hml, hown, hts⟩ (m_refused l G ad cy hI σ 3 (by decide)) (cwV 1 hts gX3_draw_X3_refused rfl rfl rfl (by decide +kernel) ⟨Nat.le_of_ble_eq_true rfl, Nat.le_of_ble_eq_true rfl⟩) (mRecv hK hP) hAc hA hK hP hS rfl hl.1 rfl (Nat.le_of_ble_eq_true rfl) dX3_draw_90 ⟨Nat.zero_le _, Nat.zero_le _⟩ (fun H locs hP hS => ?_)
        refine k_if_eq (tgt := 98) hx hb dX3_draw_93 (by decide) (gNz_nB _) (fun c9 => absurd c9 (by decide)) (fun _ => ?_)
        refine k_iconst hx hb dX3_draw_96 ?_
        have eQ : qDraw σ f x = 3 := by unfold qDraw; (repeat' split) <;> first | rfl | omega
        have eF : up σ 0 0 3 = tOf (qDraw σ f x) σ (gCharge (up (up σ 0 0 0) 15 f.toNat (σ 15 f.toNat + x)) f x) := by (rw [tOf_n eQ (by decide)]); try (rfl)
        rw [eF] at hP
        have eR : 0 = rOf (qDraw σ f x) (gLimit (gCharge (up (up σ 0 0 0) 15 f.toNat (σ 15 f.toNat + x)) f x) f - (σ 15 f.toNat + x)) := by (rw [rOf_n eQ (by decide)]); try (rfl)
        exact W.iret hx hb hr (fun t ht hW => ⟨⟨_, _, rfl, ⟨congrArg iI eR, rfl⟩, by rw [ht]; exact hP, va_K.moved hW.alike hK⟩, hS.F ht⟩) hS.2.2 dX3_draw_97
      · refine lv_aload_n hx hb dX3_draw_36 rfl (lv_at hl 1 rfl) ?_
        refine k_mg (v := .ref (ad 15)) hx hb hts hown hF3 hK hP 18 (by decide) lf52 dX3_draw_37 rfl rfl ?_
        refine lv_iload_n hx hb dX3_draw_40 rfl (lv_at hl 2 rfl) ?_
        refine k_mld (q := 15) (N := 8) (x := f) hx hb hK hP (by decide) rfl (by omega) (by omega) (by decide) dX3_draw_41 ?_
        refine lv_iload_n hx hb dX3_draw_42 rfl (lv_at hl 3 rfl) ?_
        refine k_iadd hx hb dX3_draw_43 ?_
        refine lv_aload_n hx hb dX3_draw_44 rfl (lv_at hl 1 rfl) ?_
        refine lv_iload_n hx hb dX3_draw_45 rfl (lv_at hl 2 rfl) ?_
        refine k_mci (As := [.int (iI f)]) (rest := [.int (iI ((σ 15 f.toNat) + x))]) ⟨hx, hb, hml, hown, hts⟩ (m_limitOf l G ad cy hI σ f (by omega) (by omega) (by omega) (by omega)) (cwV 1 hts gX3_draw_X3_limitOf rfl rfl rfl (by decide +kernel) ⟨Nat.le_of_ble_eq_true rfl, Nat.le_of_ble_eq_true rfl⟩) (mRecv hK hP) hAc hA hK hP hS rfl hl.1 rfl (Nat.le_of_ble_eq_true rfl) dX3_draw_46 ⟨Nat.zero_le _, Nat.zero_le _⟩ (fun H locs hP hS => ?_)
        refine k_icmp_gt (tgt := 56) hx hb dX3_draw_49 (by decide) (by omega) (by omega) (fun c_10 => ?_) (fun c_10 => ?_)
        · refine k_iconst hx hb dX3_draw_56 ?_
          refine lv_istore (lv' := [(4, .int (iI 0)), (3, .int (iI 1)), (0, .ref (ad 0)), (1, .int (iI f)), (2, .int (iI x))]) hx hb dX3_draw_57 hl (by decide) rfl (fun ls hl => ?_)
          refine lv_aload_n hx hb dX3_draw_59 rfl (lv_at hl 2 rfl) ?_
          refine lv_aload_n hx hb dX3_draw_60 rfl (lv_at hl 2 rfl) ?_
          refine lv_iload_n hx hb dX3_draw_61 rfl (lv_at hl 3 rfl) ?_
          refine k_mci (As := [.int (iI f)]) (rest := [.ref (ad 0)]) ⟨hx, hb, hml, hown, hts⟩ (m_isFarmer l G ad cy hI σ f (by omega) hcnt) (cwV 1 hts gX3_draw_X3_isFarmer rfl rfl rfl (by decide +kernel) ⟨Nat.le_of_ble_eq_true rfl, Nat.le_of_ble_eq_true rfl⟩) (mRecv hK hP) hAc hA hK hP hS rfl hl.1 rfl (Nat.le_of_ble_eq_true rfl) dX3_draw_62 ⟨Nat.zero_le _, Nat.zero_le _⟩ (fun H locs hP hS => ?_)
          refine k_if_ne (tgt := 72) hx hb dX3_draw_65 (by decide) (gIn_nB _ _ _) (fun _ => ?_) (fun c9 => absurd c9 (by omega))
          refine lv_iload_n hx hb dX3_draw_72 rfl (lv_at hl 1 rfl) ?_
          refine k_if_ne (tgt := 80) hx hb dX3_draw_73 (by decide) (by decide) (fun _ => ?_) (fun c9 => absurd c9 (by decide))
          refine lv_iload hx hb dX3_draw_80 (lv_at hl 0 rfl) ?_
          refine k_if_eq (tgt := 89) hx hb dX3_draw_82 (by decide) (by decide) (fun _ => ?_) (fun c9 => absurd c9 (by decide))
          refine k_iconst hx hb dX3_draw_89 ?_
          refine k_mci (As := [.int (iI 3)]) (rest := []) ⟨hx, hb, hml, hown, hts⟩ (m_refused l G ad cy hI σ 3 (by decide)) (cwV 1 hts gX3_draw_X3_refused rfl rfl rfl (by decide +kernel) ⟨Nat.le_of_ble_eq_true rfl, Nat.le_of_ble_eq_true rfl⟩) (mRecv hK hP) hAc hA hK hP hS rfl hl.1 rfl (Nat.le_of_ble_eq_true rfl) dX3_draw_90 ⟨Nat.zero_le _, Nat.zero_le _⟩ (fun H locs hP hS => ?_)
          refine k_if_eq (tgt := 98) hx hb dX3_draw_93 (by decide) (gNz_nB _) (fun c9 => absurd c9 (by decide)) (fun _ => ?_)
          refine k_iconst hx hb dX3_draw_96 ?_
          have eQ : qDraw σ f x = 3 := by unfold qDraw; (repeat' split) <;> first | rfl | omega
          have eF : up σ 0 0 3 = tOf (qDraw σ f x) σ (gCharge (up (up σ 0 0 0) 15 f.toNat (σ 15 f.toNat + x)) f x) := by (rw [tOf_n eQ (by decide)]); try (rfl)
          rw [eF] at hP
          have eR : 0 = rOf (qDraw σ f x) (gLimit (gCharge (up (up σ 0 0 0) 15 f.toNat (σ 15 f.toNat + x)) f x) f - (σ 15 f.toNat + x)) := by (rw [rOf_n eQ (by decide)]); try (rfl)
          exact W.iret hx hb hr (fun t ht hW => ⟨⟨_, _, rfl, ⟨congrArg iI eR, rfl⟩, by rw [ht]; exact hP, va_K.moved hW.alike hK⟩, hS.F ht⟩) hS.2.2 dX3_draw_97
        · refine k_iconst hx hb dX3_draw_52 ?_
          refine lv_goto (tgt := 57) hx hb dX3_draw_53 (by decide) ?_
          refine lv_istore (lv' := [(4, .int (iI 1)), (3, .int (iI 1)), (0, .ref (ad 0)), (1, .int (iI f)), (2, .int (iI x))]) hx hb dX3_draw_57 hl (by decide) rfl (fun ls hl => ?_)
          refine lv_aload_n hx hb dX3_draw_59 rfl (lv_at hl 2 rfl) ?_
          refine lv_aload_n hx hb dX3_draw_60 rfl (lv_at hl 2 rfl) ?_
          refine lv_iload_n hx hb dX3_draw_61 rfl (lv_at hl 3 rfl) ?_
          refine k_mci (As := [.int (iI f)]) (rest := [.ref (ad 0)]) ⟨hx, hb, hml, hown, hts⟩ (m_isFarmer l G ad cy hI σ f (by omega) hcnt) (cwV 1 hts gX3_draw_X3_isFarmer rfl rfl rfl (by decide +kernel) ⟨Nat.le_of_ble_eq_true rfl, Nat.le_of_ble_eq_true rfl⟩) (mRecv hK hP) hAc hA hK hP hS rfl hl.1 rfl (Nat.le_of_ble_eq_true rfl) dX3_draw_62 ⟨Nat.zero_le _, Nat.zero_le _⟩ (fun H locs hP hS => ?_)
          refine k_if_ne (tgt := 72) hx hb dX3_draw_65 (by decide) (gIn_nB _ _ _) (fun _ => ?_) (fun c9 => absurd c9 (by omega))
          refine lv_iload_n hx hb dX3_draw_72 rfl (lv_at hl 1 rfl) ?_
          refine k_if_ne (tgt := 80) hx hb dX3_draw_73 (by decide) (by decide) (fun _ => ?_) (fun c9 => absurd c9 (by decide))
          refine lv_iload hx hb dX3_draw_80 (lv_at hl 0 rfl) ?_
          refine k_if_eq (tgt := 89) hx hb dX3_draw_82 (by decide) (by decide) (fun c9 => absurd c9 (by decide)) (fun _ => ?_)
          refine k_iconst hx hb dX3_draw_85 ?_
          refine lv_goto (tgt := 90) hx hb dX3_draw_86 (by decide) ?_
          refine k_mci (As := [.int (iI 0)]) (rest := []) ⟨hx, hb, hml, hown, hts⟩ (m_refused l G ad cy hI σ 0 (by decide)) (cwV 1 hts gX3_draw_X3_refused rfl rfl rfl (by decide +kernel) ⟨Nat.le_of_ble_eq_true rfl, Nat.le_of_ble_eq_true rfl⟩) (mRecv hK hP) hAc hA hK hP hS rfl hl.1 rfl (Nat.le_of_ble_eq_true rfl) dX3_draw_90 ⟨Nat.zero_le _, Nat.zero_le _⟩ (fun H locs hP hS => ?_)
          refine k_if_eq (tgt := 98) hx hb dX3_draw_93 (by decide) (gNz_nB _) (fun _ => ?_) (fun c9 => absurd c9 (by decide))
          refine lv_aload_n hx hb dX3_draw_98 rfl (lv_at hl 2 rfl) ?_
          refine k_mg (v := .ref (ad 15)) hx hb hts hown hF3 hK hP 18 (by decide) lf52 dX3_draw_99 rfl rfl ?_
          refine lv_iload_n hx hb dX3_draw_102 rfl (lv_at hl 3 rfl) ?_
          refine lv_dup2_11 hx hb dX3_draw_103 rfl rfl ?_
          refine k_mld (q := 15) (N := 8) (x := f) hx hb hK hP (by decide) rfl (by omega) (by omega) (by decide) dX3_draw_104 ?_
          rw [show (up σ 0 0 0) 15 (f).toNat = σ 15 f.toNat by simp [up]]
          refine lv_iload_n hx hb dX3_draw_105 rfl (lv_at hl 4 rfl) ?_
          refine k_iadd hx hb dX3_draw_106 ?_
          refine k_mst (q := 15) (N := 8) (x := f) (v := (σ 15 f.toNat) + x) hx hb hI hAc hK hP hS (by decide) rfl (by omega) (by omega) (by decide) dX3_draw_107 (fun H locs hP hS => ?_)
          refine lv_aload_n hx hb dX3_draw_108 rfl (lv_at hl 2 rfl) ?_
          refine lv_iload_n hx hb dX3_draw_109 rfl (lv_at hl 3 rfl) ?_
          refine lv_iload_n hx hb dX3_draw_110 rfl (lv_at hl 4 rfl) ?_
          refine k_mcv (As := [.int (iI f), .int (iI x)]) (rest := []) ⟨hx, hb, hml, hown, hts⟩ (m_charge l G ad cy hI (up (up σ 0 0 0) 15 f.toNat ((σ 15 f.toNat) + x)) f x (by omega) (by omega) (by omega)) (cwV 2 hts gX3_draw_X3_charge rfl rfl rfl (by decide +kernel) ⟨Nat.le_of_ble_eq_true rfl, Nat.le_of_ble_eq_true rfl⟩) (mRecv hK hP) hAc hA hK hP hS rfl hl.1 rfl (Nat.le_of_ble_eq_true rfl) dX3_draw_111 ⟨Nat.zero_le _, Nat.zero_le _⟩ (fun H locs hP hS => ?_)
          refine lv_aload_n hx hb dX3_draw_114 rfl (lv_at hl 2 rfl) ?_
          refine lv_iload_n hx hb dX3_draw_115 rfl (lv_at hl 3 rfl) ?_
          refine k_mci (As := [.int (iI f)]) (rest := []) ⟨hx, hb, hml, hown, hts⟩ (m_limitOf l G ad cy hI (gCharge (up (up σ 0 0 0) 15 f.toNat ((σ 15 f.toNat) + x)) f x) f (by omega) (by omega) (by simp [gCharge, up]; omega) (by simp [gCharge, up]; omega)) (cwV 1 hts gX3_draw_X3_limitOf rfl rfl rfl (by decide +kernel) ⟨Nat.le_of_ble_eq_true rfl, Nat.le_of_ble_eq_true rfl⟩) (mRecv hK hP) hAc hA hK hP hS rfl hl.1 rfl (Nat.le_of_ble_eq_true rfl) dX3_draw_116 ⟨Nat.zero_le _, Nat.zero_le _⟩ (fun H locs hP hS => ?_)
          refine lv_aload_n hx hb dX3_draw_119 rfl (lv_at hl 2 rfl) ?_
          refine k_mg (v := .ref (ad 15)) hx hb hts hown hF3 hK hP 18 (by decide) lf52 dX3_draw_120 rfl rfl ?_
          refine lv_iload_n hx hb dX3_draw_123 rfl (lv_at hl 3 rfl) ?_
          refine k_mld (q := 15) (N := 8) (x := f) hx hb hK hP (by decide) rfl (by omega) (by omega) (by decide) dX3_draw_124 ?_
          rw [show (gCharge (up (up σ 0 0 0) 15 f.toNat ((σ 15 f.toNat) + x)) f x) 15 (f).toNat = (σ 15 f.toNat) + x by simp [gCharge, up]]
          refine k_isub hx hb dX3_draw_125 ?_
          have eQ : qDraw σ f x = 0 := by unfold qDraw; (repeat' split) <;> first | rfl | omega
          have eF : gCharge (up (up σ 0 0 0) 15 f.toNat ((σ 15 f.toNat) + x)) f x = tOf (qDraw σ f x) σ (gCharge (up (up σ 0 0 0) 15 f.toNat (σ 15 f.toNat + x)) f x) := by (rw [tOf_0 eQ]); try (first | rfl | (simp only [up_s]; done) | (simp only [up_s]; repeat' split) <;> first | rfl | (exfalso; omega) | omega)
          rw [eF] at hP
          have eR : (gLimit (gCharge (up (up σ 0 0 0) 15 f.toNat ((σ 15 f.toNat) + x)) f x) f) - ((σ 15 f.toNat) + x) = rOf (qDraw σ f x) (gLimit (gCharge (up (up σ 0 0 0) 15 f.toNat (σ 15 f.toNat + x)) f x) f - (σ 15 f.toNat + x)) := by (rw [rOf_0 eQ]); try (first | rfl | (simp only [up_s]; done) | (simp only [up_s]; repeat' split) <;> first | rfl | (exfalso; omega) | omega)
          exact W.iret hx hb hr (fun t ht hW => ⟨⟨_, _, rfl, ⟨congrArg iI eR, rfl⟩, by rw [ht]; exact hP, va_K.moved hW.alike hK⟩, hS.F ht⟩) hS.2.2 dX3_draw_126
set_option maxHeartbeats 4000000 in
set_option maxRecDepth 100000 in
theorem m_setYield (l : Launch) (G : va_G) (ad : Nat → Nat) (cy : Nat → ClassId) (hI : mI ad) (σ : Sg) (f x : Int) (hf : nB f) (hx : nB x) (hB : mBd σ) : mMi l yX3_setYield wsX3_setYield ({ frames := 2, cells := 0, slots := 0, locals := 43 } : Room) G ad cy [.ref (ad 0), .int (iI f), .int (iI x)] σ (rOf (qYield σ f x) (σ 17 f.toNat)) (tOf (qYield σ f x) σ (up (up σ 0 0 0) 17 f.toNat x)) := by
  intro sz
  refine Met.ofW (cc := cX3_setYield) (maxL := 4) (ret := (some .int)) (by decide) rfl ?_
  intro p e s m args below meth cd s₁ B hml hv
  obtain ⟨rfl, hsz, hP, hK⟩ := hv
  have hx := B.exec
  have hb := B.bytes
  have hr := B.returns
  have hts := atoms_spec (ws := wsX3_setYield) B.pre
  have hown : s.vm.findClass RX3 = some m.cls := findClass_of_methodNamed B.named
  have hlocks := B.notSynchronized
  subst hsz
  have hS : va_S (mA ad s.heap.size) s.heap s.heap [] := va_S.rf
  have hA : ∀ q, s.heap.size ≤ q → mA ad s.heap.size q := fun _ h => Or.inr h
  have hAc : ∀ j, j < 21 → mA ad s.heap.size (ad j) := fun j h => Or.inl ⟨j, h, rfl⟩
  have hl := lv_entry ([.ref (ad 0), .int (iI f), .int (iI x)]) (n := 4) (Nat.le_of_ble_eq_true rfl)
  rw [lg_entry_eq]
  generalize (lg_sl ([.ref (ad 0), .int (iI f), .int (iI x)]) ++ List.replicate (4 - (lg_sl ([.ref (ad 0), .int (iI f), .int (iI x)])).length) Slot.unset).toArray = ls at hl ⊢
  have hl : lv_has ls 4 [(0, .ref (ad 0)), (1, .int (iI f)), (2, .int (iI x))] := hl
  have hF3 : ∀ w ∈ wsX30, w ∈ wsX3_setYield := by decide +kernel
  have lf101 := hts (.fieldLink RX3 101 "HarvestLenderModel" "stage" "I") (by decide +kernel)
  have lf58 := hts (.fieldLink RX3 58 "HarvestLenderModel" "yields" "[I") (by decide +kernel)
  have hcnt := hB.1.1
  have hstg := hB.1.2.2
  have hsea := hB.1.2.1
  refine lv_aload_n hx hb dX3_setYield_0 rfl (lv_at hl 0 rfl) ?_
  refine lv_aload_n hx hb dX3_setYield_1 rfl (lv_at hl 0 rfl) ?_
  refine lv_iload_n hx hb dX3_setYield_2 rfl (lv_at hl 1 rfl) ?_
  refine k_mci (As := [.int (iI f)]) (rest := [.ref (ad 0)]) ⟨hx, hb, hml, hown, hts⟩ (m_isFarmer l G ad cy hI σ f (by omega) hcnt) (cwV 1 hts gX3_setYield_X3_isFarmer rfl rfl rfl (by decide +kernel) ⟨Nat.le_of_ble_eq_true rfl, Nat.le_of_ble_eq_true rfl⟩) (mRecv hK hP) hAc hA hK hP hS rfl hl.1 rfl (Nat.le_of_ble_eq_true rfl) dX3_setYield_3 ⟨Nat.zero_le _, Nat.zero_le _⟩ (fun H locs hP hS => ?_)
  refine k_if_ne (tgt := 13) hx hb dX3_setYield_6 (by decide) (gIn_nB _ _ _) (fun c_1 => ?_) (fun c_1 => ?_)
  · have d_1 := c_1
    rw [gIn_0] at d_1
    obtain ⟨a5, a6, a7, a9, a10, a11, a13, a14, a15, a16, a17⟩ := hB.2.2 f.toNat (by omega)
    obtain ⟨b2, b3⟩ := hB.2.1.1 (σ 7 f.toNat).toNat (by omega)
    have gl := gLimit_b hB (f := f) (by omega) (by omega)
    refine lv_iload_n hx hb dX3_setYield_13 rfl (lv_at hl 2 rfl) ?_
    refine k_iconst hx hb dX3_setYield_14 ?_
    refine k_sipush hx hb dX3_setYield_15 (by decide) ?_
    refine k_msi (As := [.int (iI x), .int (iI 0), .int (iI 200)]) (rest := [.ref (ad 0)]) ⟨hx, hb, hml, hown, hts⟩ (m_in l G ad cy hI σ x 0 200 (by omega) (by decide) (by decide)) (va_cwS 3 hts gX3_setYield_X3_in rfl rfl rfl (by decide +kernel) ⟨Nat.le_of_ble_eq_true rfl, Nat.le_of_ble_eq_true rfl⟩) hAc hA hK hP hS rfl hl.1 rfl (Nat.le_of_ble_eq_true rfl) dX3_setYield_18 ⟨Nat.zero_le _, Nat.zero_le _⟩ (fun H locs hP hS => ?_)
    refine k_if_ne (tgt := 28) hx hb dX3_setYield_21 (by decide) (gIn_nB _ _ _) (fun c_2 => ?_) (fun c_2 => ?_)
    · have d_2 := c_2
      rw [gIn_0] at d_2
      refine lv_aload_n hx hb dX3_setYield_28 rfl (lv_at hl 0 rfl) ?_
      refine k_mg (v := .int (iI (σ 0 2))) hx hb hts hown hF3 hK hP 2 (by decide) lf101 dX3_setYield_29 rfl rfl ?_
      refine k_iconst hx hb dX3_setYield_32 ?_
      refine k_icmp_ne (tgt := 40) hx hb dX3_setYield_33 (by decide) (by omega) (by decide) (fun c_3 => ?_) (fun c_3 => ?_)
      · refine k_iconst hx hb dX3_setYield_40 ?_
        refine k_mci (As := [.int (iI 0)]) (rest := []) ⟨hx, hb, hml, hown, hts⟩ (m_refused l G ad cy hI σ 0 (by decide)) (cwV 1 hts gX3_setYield_X3_refused rfl rfl rfl (by decide +kernel) ⟨Nat.le_of_ble_eq_true rfl, Nat.le_of_ble_eq_true rfl⟩) (mRecv hK hP) hAc hA hK hP hS rfl hl.1 rfl (Nat.le_of_ble_eq_true rfl) dX3_setYield_41 ⟨Nat.zero_le _, Nat.zero_le _⟩ (fun H locs hP hS => ?_)
        refine k_if_eq (tgt := 49) hx hb dX3_setYield_44 (by decide) (gNz_nB _) (fun _ => ?_) (fun c9 => absurd c9 (by decide))
        refine lv_aload_n hx hb dX3_setYield_49 rfl (lv_at hl 0 rfl) ?_
        refine k_mg (v := .ref (ad 17)) hx hb hts hown hF3 hK hP 20 (by decide) lf58 dX3_setYield_50 rfl rfl ?_
        refine lv_iload_n hx hb dX3_setYield_53 rfl (lv_at hl 1 rfl) ?_
        refine k_mld (q := 17) (N := 8) (x := f) hx hb hK hP (by decide) rfl (by omega) (by omega) (by decide) dX3_setYield_54 ?_
        rw [show (up σ 0 0 0) 17 (f).toNat = σ 17 f.toNat by simp [up]]
        refine lv_istore_n (lv' := [(3, .int (iI (σ 17 f.toNat))), (0, .ref (ad 0)), (1, .int (iI f)), (2, .int (iI x))]) hx hb dX3_setYield_55 rfl hl (by decide) rfl (fun ls hl => ?_)
        refine lv_aload_n hx hb dX3_setYield_56 rfl (lv_at hl 1 rfl) ?_
        refine k_mg (v := .ref (ad 17)) hx hb hts hown hF3 hK hP 20 (by decide) lf58 dX3_setYield_57 rfl rfl ?_
        refine lv_iload_n hx hb dX3_setYield_60 rfl (lv_at hl 2 rfl) ?_
        refine lv_iload_n hx hb dX3_setYield_61 rfl (lv_at hl 3 rfl) ?_
        refine k_mst (q := 17) (N := 8) (x := f) (v := x) hx hb hI hAc hK hP hS (by decide) rfl (by omega) (by omega) (by decide) dX3_setYield_62 (fun H locs hP hS => ?_)
        refine lv_iload_n hx hb dX3_setYield_63 rfl (lv_at hl 0 rfl) ?_
        have eQ : qYield σ f x = 0 := by unfold qYield; (repeat' split) <;> first | rfl | omega
        have eF : up (up σ 0 0 0) 17 f.toNat x = tOf (qYield σ f x) σ (up (up σ 0 0 0) 17 f.toNat x) := by (rw [tOf_0 eQ]); try (first | rfl | (simp only [up_s]; done) | (simp only [up_s]; repeat' split) <;> first | rfl | (exfalso; omega) | omega)
        rw [eF] at hP
        have eR : σ 17 f.toNat = rOf (qYield σ f x) (σ 17 f.toNat) := by (rw [rOf_0 eQ]); try (first | rfl | (simp only [up_s]; done) | (simp only [up_s]; repeat' split) <;> first | rfl | (exfalso; omega) | omega)
        exact W.iret hx hb hr (fun t ht hW => ⟨⟨_, _, rfl, ⟨congrArg iI eR, rfl⟩, by rw [ht]; exact hP, va_K.moved hW.alike hK⟩, hS.F ht⟩) hS.2.2 dX3_setYield_64
      · refine k_iconst hx hb dX3_setYield_36 ?_
        refine lv_goto (tgt := 41) hx hb dX3_setYield_37 (by decide) ?_
        refine k_mci (As := [.int (iI 3)]) (rest := []) ⟨hx, hb, hml, hown, hts⟩ (m_refused l G ad cy hI σ 3 (by decide)) (cwV 1 hts gX3_setYield_X3_refused rfl rfl rfl (by decide +kernel) ⟨Nat.le_of_ble_eq_true rfl, Nat.le_of_ble_eq_true rfl⟩) (mRecv hK hP) hAc hA hK hP hS rfl hl.1 rfl (Nat.le_of_ble_eq_true rfl) dX3_setYield_41 ⟨Nat.zero_le _, Nat.zero_le _⟩ (fun H locs hP hS => ?_)
        refine k_if_eq (tgt := 49) hx hb dX3_setYield_44 (by decide) (gNz_nB _) (fun c9 => absurd c9 (by decide)) (fun _ => ?_)
        refine k_iconst hx hb dX3_setYield_47 ?_
        have eQ : qYield σ f x = 3 := by unfold qYield; (repeat' split) <;> first | rfl | omega
        have eF : up σ 0 0 3 = tOf (qYield σ f x) σ (up (up σ 0 0 0) 17 f.toNat x) := by (rw [tOf_n eQ (by decide)]); try (rfl)
        rw [eF] at hP
        have eR : 0 = rOf (qYield σ f x) (σ 17 f.toNat) := by (rw [rOf_n eQ (by decide)]); try (rfl)
        exact W.iret hx hb hr (fun t ht hW => ⟨⟨_, _, rfl, ⟨congrArg iI eR, rfl⟩, by rw [ht]; exact hP, va_K.moved hW.alike hK⟩, hS.F ht⟩) hS.2.2 dX3_setYield_48
    · have d_2 := c_2
      rw [gIn_0] at d_2
      refine k_iconst hx hb dX3_setYield_24 ?_
      refine lv_goto (tgt := 41) hx hb dX3_setYield_25 (by decide) ?_
      refine k_mci (As := [.int (iI 2)]) (rest := []) ⟨hx, hb, hml, hown, hts⟩ (m_refused l G ad cy hI σ 2 (by decide)) (cwV 1 hts gX3_setYield_X3_refused rfl rfl rfl (by decide +kernel) ⟨Nat.le_of_ble_eq_true rfl, Nat.le_of_ble_eq_true rfl⟩) (mRecv hK hP) hAc hA hK hP hS rfl hl.1 rfl (Nat.le_of_ble_eq_true rfl) dX3_setYield_41 ⟨Nat.zero_le _, Nat.zero_le _⟩ (fun H locs hP hS => ?_)
      refine k_if_eq (tgt := 49) hx hb dX3_setYield_44 (by decide) (gNz_nB _) (fun c9 => absurd c9 (by decide)) (fun _ => ?_)
      refine k_iconst hx hb dX3_setYield_47 ?_
      have eQ : qYield σ f x = 2 := by unfold qYield; (repeat' split) <;> first | rfl | omega
      have eF : up σ 0 0 2 = tOf (qYield σ f x) σ (up (up σ 0 0 0) 17 f.toNat x) := by (rw [tOf_n eQ (by decide)]); try (rfl)
      rw [eF] at hP
      have eR : 0 = rOf (qYield σ f x) (σ 17 f.toNat) := by (rw [rOf_n eQ (by decide)]); try (rfl)
      exact W.iret hx hb hr (fun t ht hW => ⟨⟨_, _, rfl, ⟨congrArg iI eR, rfl⟩, by rw [ht]; exact hP, va_K.moved hW.alike hK⟩, hS.F ht⟩) hS.2.2 dX3_setYield_48
  · have d_1 := c_1
    rw [gIn_0] at d_1
    refine k_iconst hx hb dX3_setYield_9 ?_
    refine lv_goto (tgt := 41) hx hb dX3_setYield_10 (by decide) ?_
    refine k_mci (As := [.int (iI 1)]) (rest := []) ⟨hx, hb, hml, hown, hts⟩ (m_refused l G ad cy hI σ 1 (by decide)) (cwV 1 hts gX3_setYield_X3_refused rfl rfl rfl (by decide +kernel) ⟨Nat.le_of_ble_eq_true rfl, Nat.le_of_ble_eq_true rfl⟩) (mRecv hK hP) hAc hA hK hP hS rfl hl.1 rfl (Nat.le_of_ble_eq_true rfl) dX3_setYield_41 ⟨Nat.zero_le _, Nat.zero_le _⟩ (fun H locs hP hS => ?_)
    refine k_if_eq (tgt := 49) hx hb dX3_setYield_44 (by decide) (gNz_nB _) (fun c9 => absurd c9 (by decide)) (fun _ => ?_)
    refine k_iconst hx hb dX3_setYield_47 ?_
    have eQ : qYield σ f x = 1 := by unfold qYield; (repeat' split) <;> first | rfl | omega
    have eF : up σ 0 0 1 = tOf (qYield σ f x) σ (up (up σ 0 0 0) 17 f.toNat x) := by (rw [tOf_n eQ (by decide)]); try (rfl)
    rw [eF] at hP
    have eR : 0 = rOf (qYield σ f x) (σ 17 f.toNat) := by (rw [rOf_n eQ (by decide)]); try (rfl)
    exact W.iret hx hb hr (fun t ht hW => ⟨⟨_, _, rfl, ⟨congrArg iI eR, rfl⟩, by rw [ht]; exact hP, va_K.moved hW.alike hK⟩, hS.F ht⟩) hS.2.2 dX3_setYield_48
set_option maxHeartbeats 4000000 in
set_option maxRecDepth 100000 in
theorem m_pledge (l : Launch) (G : va_G) (ad : Nat → Nat) (cy : Nat → ClassId) (hI : mI ad) (σ : Sg) (f u : Int) (hf : nB f) (hu : nB u) (hB : mBd σ) : mMi l yX3_pledge wsX3_pledge ({ frames := 2, cells := 0, slots := 0, locals := 47 } : Room) G ad cy [.ref (ad 0), .int (iI f), .int (iI u)] σ (rOf (qPledge σ f u) (u * gPr σ f * 60 / 100)) (tOf (qPledge σ f u) σ (gPledge σ f u)) := by
  intro sz
  refine Met.ofW (cc := cX3_pledge) (maxL := 6) (ret := (some .int)) (by decide) rfl ?_
  intro p e s m args below meth cd s₁ B hml hv
  obtain ⟨rfl, hsz, hP, hK⟩ := hv
  have hx := B.exec
  have hb := B.bytes
  have hr := B.returns
  have hts := atoms_spec (ws := wsX3_pledge) B.pre
  have hown : s.vm.findClass RX3 = some m.cls := findClass_of_methodNamed B.named
  have hlocks := B.notSynchronized
  subst hsz
  have hS : va_S (mA ad s.heap.size) s.heap s.heap [] := va_S.rf
  have hA : ∀ q, s.heap.size ≤ q → mA ad s.heap.size q := fun _ h => Or.inr h
  have hAc : ∀ j, j < 21 → mA ad s.heap.size (ad j) := fun j h => Or.inl ⟨j, h, rfl⟩
  have hl := lv_entry ([.ref (ad 0), .int (iI f), .int (iI u)]) (n := 6) (Nat.le_of_ble_eq_true rfl)
  rw [lg_entry_eq]
  generalize (lg_sl ([.ref (ad 0), .int (iI f), .int (iI u)]) ++ List.replicate (6 - (lg_sl ([.ref (ad 0), .int (iI f), .int (iI u)])).length) Slot.unset).toArray = ls at hl ⊢
  have hl : lv_has ls 6 [(0, .ref (ad 0)), (1, .int (iI f)), (2, .int (iI u))] := hl
  have hF3 : ∀ w ∈ wsX30, w ∈ wsX3_pledge := by decide +kernel
  have lc125 := hts (.constant RX3 125 (1000000)) (by decide +kernel)
  have lf31 := hts (.fieldLink RX3 31 "HarvestLenderModel" "grains" "[I") (by decide +kernel)
  have lf34 := hts (.fieldLink RX3 34 "HarvestLenderModel" "pledged" "[I") (by decide +kernel)
  have lf13 := hts (.fieldLink RX3 13 "HarvestLenderModel" "prices" "[I") (by decide +kernel)
  have lf28 := hts (.fieldLink RX3 28 "HarvestLenderModel" "grainCrops" "[I") (by decide +kernel)
  have lc126 := hts (.constantLong RX3 126 (60)) (by decide +kernel)
  have lc115 := hts (.constantLong RX3 115 (100)) (by decide +kernel)
  have lf37 := hts (.fieldLink RX3 37 "HarvestLenderModel" "pledgeDebts" "[I") (by decide +kernel)
  have hcnt := hB.1.1
  have hstg := hB.1.2.2
  have hsea := hB.1.2.1
  refine lv_aload_n hx hb dX3_pledge_0 rfl (lv_at hl 0 rfl) ?_
  refine lv_iload_n hx hb dX3_pledge_1 rfl (lv_at hl 1 rfl) ?_
  refine k_mci (As := [.int (iI f)]) (rest := []) ⟨hx, hb, hml, hown, hts⟩ (m_isFarmer l G ad cy hI σ f (by omega) hcnt) (cwV 1 hts gX3_pledge_X3_isFarmer rfl rfl rfl (by decide +kernel) ⟨Nat.le_of_ble_eq_true rfl, Nat.le_of_ble_eq_true rfl⟩) (mRecv hK hP) hAc hA hK hP hS rfl hl.1 rfl (Nat.le_of_ble_eq_true rfl) dX3_pledge_2 ⟨Nat.zero_le _, Nat.zero_le _⟩ (fun H locs hP hS => ?_)
  refine k_if_eq (tgt := 22) hx hb dX3_pledge_5 (by decide) (gIn_nB _ _ _) (fun c_1 => ?_) (fun c_1 => ?_)
  · have d_1 := c_1
    rw [gIn_0] at d_1
    refine k_iconst hx hb dX3_pledge_22 ?_
    refine lv_istore_n (lv' := [(3, .int (iI 0)), (0, .ref (ad 0)), (1, .int (iI f)), (2, .int (iI u))]) hx hb dX3_pledge_23 rfl hl (by decide) rfl (fun ls hl => ?_)
    refine lv_iload_n hx hb dX3_pledge_24 rfl (lv_at hl 0 rfl) ?_
    refine k_if_eq (tgt := 49) hx hb dX3_pledge_25 (by decide) (by decide) (fun _ => ?_) (fun c9 => absurd c9 (by decide))
    refine k_iconst hx hb dX3_pledge_49 ?_
    refine lv_istore (lv' := [(4, .int (iI 0)), (3, .int (iI 0)), (0, .ref (ad 0)), (1, .int (iI f)), (2, .int (iI u))]) hx hb dX3_pledge_50 hl (by decide) rfl (fun ls hl => ?_)
    refine lv_aload_n hx hb dX3_pledge_52 rfl (lv_at hl 2 rfl) ?_
    refine lv_aload_n hx hb dX3_pledge_53 rfl (lv_at hl 2 rfl) ?_
    refine lv_iload_n hx hb dX3_pledge_54 rfl (lv_at hl 3 rfl) ?_
    refine k_mci (As := [.int (iI f)]) (rest := [.ref (ad 0)]) ⟨hx, hb, hml, hown, hts⟩ (m_isFarmer l G ad cy hI σ f (by omega) hcnt) (cwV 1 hts gX3_pledge_X3_isFarmer rfl rfl rfl (by decide +kernel) ⟨Nat.le_of_ble_eq_true rfl, Nat.le_of_ble_eq_true rfl⟩) (mRecv hK hP) hAc hA hK hP hS rfl hl.1 rfl (Nat.le_of_ble_eq_true rfl) dX3_pledge_55 ⟨Nat.zero_le _, Nat.zero_le _⟩ (fun H locs hP hS => ?_)
    refine k_if_ne (tgt := 65) hx hb dX3_pledge_58 (by decide) (gIn_nB _ _ _) (fun c9 => absurd c9 (by omega)) (fun _ => ?_)
    refine k_iconst hx hb dX3_pledge_61 ?_
    refine lv_goto (tgt := 83) hx hb dX3_pledge_62 (by decide) ?_
    refine k_mci (As := [.int (iI 1)]) (rest := []) ⟨hx, hb, hml, hown, hts⟩ (m_refused l G ad cy hI σ 1 (by decide)) (cwV 1 hts gX3_pledge_X3_refused rfl rfl rfl (by decide +kernel) ⟨Nat.le_of_ble_eq_true rfl, Nat.le_of_ble_eq_true rfl⟩) (mRecv hK hP) hAc hA hK hP hS rfl hl.1 rfl (Nat.le_of_ble_eq_true rfl) dX3_pledge_83 ⟨Nat.zero_le _, Nat.zero_le _⟩ (fun H locs hP hS => ?_)
    refine k_if_eq (tgt := 91) hx hb dX3_pledge_86 (by decide) (gNz_nB _) (fun c9 => absurd c9 (by decide)) (fun _ => ?_)
    refine k_iconst hx hb dX3_pledge_89 ?_
    have eQ : qPledge σ f u = 1 := by unfold qPledge; (repeat' split) <;> first | rfl | omega
    have eF : up σ 0 0 1 = tOf (qPledge σ f u) σ (gPledge σ f u) := by (rw [tOf_n eQ (by decide)]); try (rfl)
    rw [eF] at hP
    have eR : 0 = rOf (qPledge σ f u) (u * gPr σ f * 60 / 100) := by (rw [rOf_n eQ (by decide)]); try (rfl)
    exact W.iret hx hb hr (fun t ht hW => ⟨⟨_, _, rfl, ⟨congrArg iI eR, rfl⟩, by rw [ht]; exact hP, va_K.moved hW.alike hK⟩, hS.F ht⟩) hS.2.2 dX3_pledge_90
  · have d_1 := c_1
    rw [gIn_0] at d_1
    obtain ⟨a5, a6, a7, a9, a10, a11, a13, a14, a15, a16, a17⟩ := hB.2.2 f.toNat (by omega)
    obtain ⟨b2, b3⟩ := hB.2.1.1 (σ 7 f.toNat).toNat (by omega)
    have gl := gLimit_b hB (f := f) (by omega) (by omega)
    refine lv_iload_n hx hb dX3_pledge_8 rfl (lv_at hl 2 rfl) ?_
    refine k_iconst hx hb dX3_pledge_9 ?_
    refine k_ldc hx hb (1000000) hown lc125 (by decide) dX3_pledge_10 ?_
    refine k_msi (As := [.int (iI u), .int (iI 1), .int (iI 1000000)]) (rest := []) ⟨hx, hb, hml, hown, hts⟩ (m_in l G ad cy hI σ u 1 1000000 (by omega) (by decide) (by decide)) (va_cwS 3 hts gX3_pledge_X3_in rfl rfl rfl (by decide +kernel) ⟨Nat.le_of_ble_eq_true rfl, Nat.le_of_ble_eq_true rfl⟩) hAc hA hK hP hS rfl hl.1 rfl (Nat.le_of_ble_eq_true rfl) dX3_pledge_12 ⟨Nat.zero_le _, Nat.zero_le _⟩ (fun H locs hP hS => ?_)
    refine k_if_eq (tgt := 22) hx hb dX3_pledge_15 (by decide) (gIn_nB _ _ _) (fun c_4 => ?_) (fun c_4 => ?_)
    · have d_4 := c_4
      rw [gIn_0] at d_4
      refine k_iconst hx hb dX3_pledge_22 ?_
      refine lv_istore_n (lv' := [(3, .int (iI 0)), (0, .ref (ad 0)), (1, .int (iI f)), (2, .int (iI u))]) hx hb dX3_pledge_23 rfl hl (by decide) rfl (fun ls hl => ?_)
      refine lv_iload_n hx hb dX3_pledge_24 rfl (lv_at hl 0 rfl) ?_
      refine k_if_eq (tgt := 49) hx hb dX3_pledge_25 (by decide) (by decide) (fun _ => ?_) (fun c9 => absurd c9 (by decide))
      refine k_iconst hx hb dX3_pledge_49 ?_
      refine lv_istore (lv' := [(4, .int (iI 0)), (3, .int (iI 0)), (0, .ref (ad 0)), (1, .int (iI f)), (2, .int (iI u))]) hx hb dX3_pledge_50 hl (by decide) rfl (fun ls hl => ?_)
      refine lv_aload_n hx hb dX3_pledge_52 rfl (lv_at hl 2 rfl) ?_
      refine lv_aload_n hx hb dX3_pledge_53 rfl (lv_at hl 2 rfl) ?_
      refine lv_iload_n hx hb dX3_pledge_54 rfl (lv_at hl 3 rfl) ?_
      refine k_mci (As := [.int (iI f)]) (rest := [.ref (ad 0)]) ⟨hx, hb, hml, hown, hts⟩ (m_isFarmer l G ad cy hI σ f (by omega) hcnt) (cwV 1 hts gX3_pledge_X3_isFarmer rfl rfl rfl (by decide +kernel) ⟨Nat.le_of_ble_eq_true rfl, Nat.le_of_ble_eq_true rfl⟩) (mRecv hK hP) hAc hA hK hP hS rfl hl.1 rfl (Nat.le_of_ble_eq_true rfl) dX3_pledge_55 ⟨Nat.zero_le _, Nat.zero_le _⟩ (fun H locs hP hS => ?_)
      refine k_if_ne (tgt := 65) hx hb dX3_pledge_58 (by decide) (gIn_nB _ _ _) (fun _ => ?_) (fun c9 => absurd c9 (by omega))
      refine lv_iload_n hx hb dX3_pledge_65 rfl (lv_at hl 1 rfl) ?_
      refine k_if_ne (tgt := 73) hx hb dX3_pledge_66 (by decide) (by decide) (fun c9 => absurd c9 (by decide)) (fun _ => ?_)
      refine k_iconst hx hb dX3_pledge_69 ?_
      refine lv_goto (tgt := 83) hx hb dX3_pledge_70 (by decide) ?_
      refine k_mci (As := [.int (iI 2)]) (rest := []) ⟨hx, hb, hml, hown, hts⟩ (m_refused l G ad cy hI σ 2 (by decide)) (cwV 1 hts gX3_pledge_X3_refused rfl rfl rfl (by decide +kernel) ⟨Nat.le_of_ble_eq_true rfl, Nat.le_of_ble_eq_true rfl⟩) (mRecv hK hP) hAc hA hK hP hS rfl hl.1 rfl (Nat.le_of_ble_eq_true rfl) dX3_pledge_83 ⟨Nat.zero_le _, Nat.zero_le _⟩ (fun H locs hP hS => ?_)
      refine k_if_eq (tgt := 91) hx hb dX3_pledge_86 (by decide) (gNz_nB _) (fun c9 => absurd c9 (by decide)) (fun _ => ?_)
      refine k_iconst hx hb dX3_pledge_89 ?_
      have eQ : qPledge σ f u = 2 := by unfold qPledge; (repeat' split) <;> first | rfl | omega
      have eF : up σ 0 0 2 = tOf (qPledge σ f u) σ (gPledge σ f u) := by (rw [tOf_n eQ (by decide)]); try (rfl)
      rw [eF] at hP
      have eR : 0 = rOf (qPledge σ f u) (u * gPr σ f * 60 / 100) := by (rw [rOf_n eQ (by decide)]); try (rfl)
      exact W.iret hx hb hr (fun t ht hW => ⟨⟨_, _, rfl, ⟨congrArg iI eR, rfl⟩, by rw [ht]; exact hP, va_K.moved hW.alike hK⟩, hS.F ht⟩) hS.2.2 dX3_pledge_90
    · have d_4 := c_4
      rw [gIn_0] at d_4
      refine k_iconst hx hb dX3_pledge_18 ?_
      refine lv_goto (tgt := 23) hx hb dX3_pledge_19 (by decide) ?_
      refine lv_istore_n (lv' := [(3, .int (iI 1)), (0, .ref (ad 0)), (1, .int (iI f)), (2, .int (iI u))]) hx hb dX3_pledge_23 rfl hl (by decide) rfl (fun ls hl => ?_)
      refine lv_iload_n hx hb dX3_pledge_24 rfl (lv_at hl 0 rfl) ?_
      refine k_if_eq (tgt := 49) hx hb dX3_pledge_25 (by decide) (by decide) (fun c9 => absurd c9 (by decide)) (fun _ => ?_)
      refine lv_aload_n hx hb dX3_pledge_28 rfl (lv_at hl 1 rfl) ?_
      refine k_mg (v := .ref (ad 8)) hx hb hts hown hF3 hK hP 11 (by decide) lf31 dX3_pledge_29 rfl rfl ?_
      refine lv_iload_n hx hb dX3_pledge_32 rfl (lv_at hl 2 rfl) ?_
      refine k_mld (q := 8) (N := 8) (x := f) hx hb hK hP (by decide) rfl (by omega) (by omega) (by decide) dX3_pledge_33 ?_
      refine lv_aload_n hx hb dX3_pledge_34 rfl (lv_at hl 1 rfl) ?_
      refine k_mg (v := .ref (ad 9)) hx hb hts hown hF3 hK hP 12 (by decide) lf34 dX3_pledge_35 rfl rfl ?_
      refine lv_iload_n hx hb dX3_pledge_38 rfl (lv_at hl 2 rfl) ?_
      refine k_mld (q := 9) (N := 8) (x := f) hx hb hK hP (by decide) rfl (by omega) (by omega) (by decide) dX3_pledge_39 ?_
      refine k_isub hx hb dX3_pledge_40 ?_
      refine lv_iload_n hx hb dX3_pledge_41 rfl (lv_at hl 3 rfl) ?_
      refine k_icmp_lt (tgt := 49) hx hb dX3_pledge_42 (by decide) (by omega) (by omega) (fun c_7 => ?_) (fun c_7 => ?_)
      · refine k_iconst hx hb dX3_pledge_49 ?_
        refine lv_istore (lv' := [(4, .int (iI 0)), (3, .int (iI 1)), (0, .ref (ad 0)), (1, .int (iI f)), (2, .int (iI u))]) hx hb dX3_pledge_50 hl (by decide) rfl (fun ls hl => ?_)
        refine lv_aload_n hx hb dX3_pledge_52 rfl (lv_at hl 2 rfl) ?_
        refine lv_aload_n hx hb dX3_pledge_53 rfl (lv_at hl 2 rfl) ?_
        refine lv_iload_n hx hb dX3_pledge_54 rfl (lv_at hl 3 rfl) ?_
        refine k_mci (As := [.int (iI f)]) (rest := [.ref (ad 0)]) ⟨hx, hb, hml, hown, hts⟩ (m_isFarmer l G ad cy hI σ f (by omega) hcnt) (cwV 1 hts gX3_pledge_X3_isFarmer rfl rfl rfl (by decide +kernel) ⟨Nat.le_of_ble_eq_true rfl, Nat.le_of_ble_eq_true rfl⟩) (mRecv hK hP) hAc hA hK hP hS rfl hl.1 rfl (Nat.le_of_ble_eq_true rfl) dX3_pledge_55 ⟨Nat.zero_le _, Nat.zero_le _⟩ (fun H locs hP hS => ?_)
        refine k_if_ne (tgt := 65) hx hb dX3_pledge_58 (by decide) (gIn_nB _ _ _) (fun _ => ?_) (fun c9 => absurd c9 (by omega))
        refine lv_iload_n hx hb dX3_pledge_65 rfl (lv_at hl 1 rfl) ?_
        refine k_if_ne (tgt := 73) hx hb dX3_pledge_66 (by decide) (by decide) (fun _ => ?_) (fun c9 => absurd c9 (by decide))
        refine lv_iload hx hb dX3_pledge_73 (lv_at hl 0 rfl) ?_
        refine k_if_eq (tgt := 82) hx hb dX3_pledge_75 (by decide) (by decide) (fun _ => ?_) (fun c9 => absurd c9 (by decide))
        refine k_iconst hx hb dX3_pledge_82 ?_
        refine k_mci (As := [.int (iI 3)]) (rest := []) ⟨hx, hb, hml, hown, hts⟩ (m_refused l G ad cy hI σ 3 (by decide)) (cwV 1 hts gX3_pledge_X3_refused rfl rfl rfl (by decide +kernel) ⟨Nat.le_of_ble_eq_true rfl, Nat.le_of_ble_eq_true rfl⟩) (mRecv hK hP) hAc hA hK hP hS rfl hl.1 rfl (Nat.le_of_ble_eq_true rfl) dX3_pledge_83 ⟨Nat.zero_le _, Nat.zero_le _⟩ (fun H locs hP hS => ?_)
        refine k_if_eq (tgt := 91) hx hb dX3_pledge_86 (by decide) (gNz_nB _) (fun c9 => absurd c9 (by decide)) (fun _ => ?_)
        refine k_iconst hx hb dX3_pledge_89 ?_
        have eQ : qPledge σ f u = 3 := by unfold qPledge; (repeat' split) <;> first | rfl | omega
        have eF : up σ 0 0 3 = tOf (qPledge σ f u) σ (gPledge σ f u) := by (rw [tOf_n eQ (by decide)]); try (rfl)
        rw [eF] at hP
        have eR : 0 = rOf (qPledge σ f u) (u * gPr σ f * 60 / 100) := by (rw [rOf_n eQ (by decide)]); try (rfl)
        exact W.iret hx hb hr (fun t ht hW => ⟨⟨_, _, rfl, ⟨congrArg iI eR, rfl⟩, by rw [ht]; exact hP, va_K.moved hW.alike hK⟩, hS.F ht⟩) hS.2.2 dX3_pledge_90
      · refine k_iconst hx hb dX3_pledge_45 ?_
        refine lv_goto (tgt := 50) hx hb dX3_pledge_46 (by decide) ?_
        refine lv_istore (lv' := [(4, .int (iI 1)), (3, .int (iI 1)), (0, .ref (ad 0)), (1, .int (iI f)), (2, .int (iI u))]) hx hb dX3_pledge_50 hl (by decide) rfl (fun ls hl => ?_)
        refine lv_aload_n hx hb dX3_pledge_52 rfl (lv_at hl 2 rfl) ?_
        refine lv_aload_n hx hb dX3_pledge_53 rfl (lv_at hl 2 rfl) ?_
        refine lv_iload_n hx hb dX3_pledge_54 rfl (lv_at hl 3 rfl) ?_
        refine k_mci (As := [.int (iI f)]) (rest := [.ref (ad 0)]) ⟨hx, hb, hml, hown, hts⟩ (m_isFarmer l G ad cy hI σ f (by omega) hcnt) (cwV 1 hts gX3_pledge_X3_isFarmer rfl rfl rfl (by decide +kernel) ⟨Nat.le_of_ble_eq_true rfl, Nat.le_of_ble_eq_true rfl⟩) (mRecv hK hP) hAc hA hK hP hS rfl hl.1 rfl (Nat.le_of_ble_eq_true rfl) dX3_pledge_55 ⟨Nat.zero_le _, Nat.zero_le _⟩ (fun H locs hP hS => ?_)
        refine k_if_ne (tgt := 65) hx hb dX3_pledge_58 (by decide) (gIn_nB _ _ _) (fun _ => ?_) (fun c9 => absurd c9 (by omega))
        refine lv_iload_n hx hb dX3_pledge_65 rfl (lv_at hl 1 rfl) ?_
        refine k_if_ne (tgt := 73) hx hb dX3_pledge_66 (by decide) (by decide) (fun _ => ?_) (fun c9 => absurd c9 (by decide))
        refine lv_iload hx hb dX3_pledge_73 (lv_at hl 0 rfl) ?_
        refine k_if_eq (tgt := 82) hx hb dX3_pledge_75 (by decide) (by decide) (fun c9 => absurd c9 (by decide)) (fun _ => ?_)
        refine k_iconst hx hb dX3_pledge_78 ?_
        refine lv_goto (tgt := 83) hx hb dX3_pledge_79 (by decide) ?_
        refine k_mci (As := [.int (iI 0)]) (rest := []) ⟨hx, hb, hml, hown, hts⟩ (m_refused l G ad cy hI σ 0 (by decide)) (cwV 1 hts gX3_pledge_X3_refused rfl rfl rfl (by decide +kernel) ⟨Nat.le_of_ble_eq_true rfl, Nat.le_of_ble_eq_true rfl⟩) (mRecv hK hP) hAc hA hK hP hS rfl hl.1 rfl (Nat.le_of_ble_eq_true rfl) dX3_pledge_83 ⟨Nat.zero_le _, Nat.zero_le _⟩ (fun H locs hP hS => ?_)
        refine k_if_eq (tgt := 91) hx hb dX3_pledge_86 (by decide) (gNz_nB _) (fun _ => ?_) (fun c9 => absurd c9 (by decide))
        have e1 := mulB (⟨by omega, by omega⟩ : 0 ≤ u ∧ u ≤ 300000) b2
        refine lv_iload_n hx hb dX3_pledge_91 rfl (lv_at hl 4 rfl) ?_
        refine k_i2l hx hb dX3_pledge_92 (by omega) ?_
        refine lv_aload_n hx hb dX3_pledge_93 rfl (lv_at hl 2 rfl) ?_
        refine k_mg (v := .ref (ad 2)) hx hb hts hown hF3 hK hP 4 (by decide) lf13 dX3_pledge_94 rfl rfl ?_
        refine lv_aload_n hx hb dX3_pledge_97 rfl (lv_at hl 2 rfl) ?_
        refine k_mg (v := .ref (ad 7)) hx hb hts hown hF3 hK hP 10 (by decide) lf28 dX3_pledge_98 rfl rfl ?_
        refine lv_iload_n hx hb dX3_pledge_101 rfl (lv_at hl 3 rfl) ?_
        refine k_mld (q := 7) (N := 8) (x := f) hx hb hK hP (by decide) rfl (by omega) (by omega) (by decide) dX3_pledge_102 ?_
        rw [show (up σ 0 0 0) 7 (f).toNat = σ 7 f.toNat by simp [up]]
        refine k_mld (q := 2) (N := 3) (x := σ 7 f.toNat) hx hb hK hP (by decide) rfl (by omega) (by omega) (by decide) dX3_pledge_103 ?_
        rw [show (up σ 0 0 0) 2 (σ 7 f.toNat).toNat = σ 2 ((σ 7 f.toNat).toNat) by simp [up]]
        refine k_i2l hx hb dX3_pledge_104 (by omega) ?_
        refine k_lmul hx hb dX3_pledge_105 ?_
        refine k_ldc2 hx hb (60) hown lc126 (by decide) dX3_pledge_106 ?_
        refine k_lmul hx hb dX3_pledge_109 ?_
        refine k_ldc2 hx hb (100) hown lc115 (by decide) dX3_pledge_110 ?_
        refine k_ldiv hx hb dX3_pledge_113 (by omega) (by omega) (by decide) (by decide) ?_
        refine k_l2i hx hb dX3_pledge_114 ?_
        refine lv_istore (lv' := [(5, .int (iI (((u * (σ 2 ((σ 7 f.toNat).toNat))) * 60) / 100))), (4, .int (iI 1)), (3, .int (iI 1)), (0, .ref (ad 0)), (1, .int (iI f)), (2, .int (iI u))]) hx hb dX3_pledge_115 hl (by decide) rfl (fun ls hl => ?_)
        refine lv_aload_n hx hb dX3_pledge_117 rfl (lv_at hl 3 rfl) ?_
        refine k_mg (v := .ref (ad 9)) hx hb hts hown hF3 hK hP 12 (by decide) lf34 dX3_pledge_118 rfl rfl ?_
        refine lv_iload_n hx hb dX3_pledge_121 rfl (lv_at hl 4 rfl) ?_
        refine lv_dup2_11 hx hb dX3_pledge_122 rfl rfl ?_
        refine k_mld (q := 9) (N := 8) (x := f) hx hb hK hP (by decide) rfl (by omega) (by omega) (by decide) dX3_pledge_123 ?_
        rw [show (up σ 0 0 0) 9 (f).toNat = σ 9 f.toNat by simp [up]]
        refine lv_iload_n hx hb dX3_pledge_124 rfl (lv_at hl 5 rfl) ?_
        refine k_iadd hx hb dX3_pledge_125 ?_
        refine k_mst (q := 9) (N := 8) (x := f) (v := (σ 9 f.toNat) + u) hx hb hI hAc hK hP hS (by decide) rfl (by omega) (by omega) (by decide) dX3_pledge_126 (fun H locs hP hS => ?_)
        refine lv_aload_n hx hb dX3_pledge_127 rfl (lv_at hl 3 rfl) ?_
        refine k_mg (v := .ref (ad 10)) hx hb hts hown hF3 hK hP 13 (by decide) lf37 dX3_pledge_128 rfl rfl ?_
        refine lv_iload_n hx hb dX3_pledge_131 rfl (lv_at hl 4 rfl) ?_
        refine lv_dup2_11 hx hb dX3_pledge_132 rfl rfl ?_
        refine k_mld (q := 10) (N := 8) (x := f) hx hb hK hP (by decide) rfl (by omega) (by omega) (by decide) dX3_pledge_133 ?_
        rw [show (up (up σ 0 0 0) 9 f.toNat ((σ 9 f.toNat) + u)) 10 (f).toNat = σ 10 f.toNat by simp [up]]
        refine lv_iload hx hb dX3_pledge_134 (lv_at hl 0 rfl) ?_
        refine k_iadd hx hb dX3_pledge_136 ?_
        refine k_mst (q := 10) (N := 8) (x := f) (v := (σ 10 f.toNat) + (((u * (σ 2 ((σ 7 f.toNat).toNat))) * 60) / 100)) hx hb hI hAc hK hP hS (by decide) rfl (by omega) (by omega) (by decide) dX3_pledge_137 (fun H locs hP hS => ?_)
        refine lv_aload_n hx hb dX3_pledge_138 rfl (lv_at hl 3 rfl) ?_
        refine lv_iload_n hx hb dX3_pledge_139 rfl (lv_at hl 4 rfl) ?_
        refine lv_iload hx hb dX3_pledge_140 (lv_at hl 0 rfl) ?_
        refine k_iconst hx hb dX3_pledge_142 ?_
        refine k_mcv (As := [.int (iI f), .int (iI (((u * (σ 2 ((σ 7 f.toNat).toNat))) * 60) / 100)), .int (iI 2)]) (rest := []) ⟨hx, hb, hml, hown, hts⟩ (m_come l G ad cy hI (up (up (up σ 0 0 0) 9 f.toNat ((σ 9 f.toNat) + u)) 10 f.toNat ((σ 10 f.toNat) + (((u * (σ 2 ((σ 7 f.toNat).toNat))) * 60) / 100))) f (((u * (σ 2 ((σ 7 f.toNat).toNat))) * 60) / 100) 2 (by omega) (by omega) (by decide) (by omega) (by decide) (by simp [up]; omega)) (cwV 3 hts gX3_pledge_X3_come rfl rfl rfl (by decide +kernel) ⟨Nat.le_of_ble_eq_true rfl, Nat.le_of_ble_eq_true rfl⟩) (mRecv hK hP) hAc hA hK hP hS rfl hl.1 rfl (Nat.le_of_ble_eq_true rfl) dX3_pledge_143 ⟨Nat.zero_le _, Nat.zero_le _⟩ (fun H locs hP hS => ?_)
        refine lv_iload hx hb dX3_pledge_146 (lv_at hl 0 rfl) ?_
        have eQ : qPledge σ f u = 0 := by unfold qPledge; (repeat' split) <;> first | rfl | omega
        have eF : gCome (up (up (up σ 0 0 0) 9 f.toNat ((σ 9 f.toNat) + u)) 10 f.toNat ((σ 10 f.toNat) + (((u * (σ 2 ((σ 7 f.toNat).toNat))) * 60) / 100))) f (((u * (σ 2 ((σ 7 f.toNat).toNat))) * 60) / 100) 2 = tOf (qPledge σ f u) σ (gPledge σ f u) := by (rw [tOf_0 eQ]); try (first | rfl | (simp only [up_s]; done) | (simp only [up_s]; repeat' split) <;> first | rfl | (exfalso; omega) | omega)
        rw [eF] at hP
        have eR : ((u * (σ 2 ((σ 7 f.toNat).toNat))) * 60) / 100 = rOf (qPledge σ f u) (u * gPr σ f * 60 / 100) := by (rw [rOf_0 eQ]); try (first | rfl | (simp only [up_s]; done) | (simp only [up_s]; repeat' split) <;> first | rfl | (exfalso; omega) | omega)
        exact W.iret hx hb hr (fun t ht hW => ⟨⟨_, _, rfl, ⟨congrArg iI eR, rfl⟩, by rw [ht]; exact hP, va_K.moved hW.alike hK⟩, hS.F ht⟩) hS.2.2 dX3_pledge_148
set_option maxHeartbeats 4000000 in
set_option maxRecDepth 100000 in
theorem m_sell (l : Launch) (G : va_G) (ad : Nat → Nat) (cy : Nat → ClassId) (hI : mI ad) (σ : Sg) (f u : Int) (hf : nB f) (hu : nB u) (hB : mBd σ) : mMi l yX3_sell wsX3_sell ({ frames := 2, cells := 0, slots := 0, locals := 47 } : Room) G ad cy [.ref (ad 0), .int (iI f), .int (iI u)] σ (rOf (qSell σ f u) (u * gPr σ f)) (tOf (qSell σ f u) σ (gSell σ f u)) := by
  intro sz
  refine Met.ofW (cc := cX3_sell) (maxL := 9) (ret := (some .int)) (by decide) rfl ?_
  intro p e s m args below meth cd s₁ B hml hv
  obtain ⟨rfl, hsz, hP, hK⟩ := hv
  have hx := B.exec
  have hb := B.bytes
  have hr := B.returns
  have hts := atoms_spec (ws := wsX3_sell) B.pre
  have hown : s.vm.findClass RX3 = some m.cls := findClass_of_methodNamed B.named
  have hlocks := B.notSynchronized
  subst hsz
  have hS : va_S (mA ad s.heap.size) s.heap s.heap [] := va_S.rf
  have hA : ∀ q, s.heap.size ≤ q → mA ad s.heap.size q := fun _ h => Or.inr h
  have hAc : ∀ j, j < 21 → mA ad s.heap.size (ad j) := fun j h => Or.inl ⟨j, h, rfl⟩
  have hl := lv_entry ([.ref (ad 0), .int (iI f), .int (iI u)]) (n := 9) (Nat.le_of_ble_eq_true rfl)
  rw [lg_entry_eq]
  generalize (lg_sl ([.ref (ad 0), .int (iI f), .int (iI u)]) ++ List.replicate (9 - (lg_sl ([.ref (ad 0), .int (iI f), .int (iI u)])).length) Slot.unset).toArray = ls at hl ⊢
  have hl : lv_has ls 9 [(0, .ref (ad 0)), (1, .int (iI f)), (2, .int (iI u))] := hl
  have hF3 : ∀ w ∈ wsX30, w ∈ wsX3_sell := by decide +kernel
  have lc125 := hts (.constant RX3 125 (1000000)) (by decide +kernel)
  have lf31 := hts (.fieldLink RX3 31 "HarvestLenderModel" "grains" "[I") (by decide +kernel)
  have lf13 := hts (.fieldLink RX3 13 "HarvestLenderModel" "prices" "[I") (by decide +kernel)
  have lf28 := hts (.fieldLink RX3 28 "HarvestLenderModel" "grainCrops" "[I") (by decide +kernel)
  have lf34 := hts (.fieldLink RX3 34 "HarvestLenderModel" "pledged" "[I") (by decide +kernel)
  have lf37 := hts (.fieldLink RX3 37 "HarvestLenderModel" "pledgeDebts" "[I") (by decide +kernel)
  have hcnt := hB.1.1
  have hstg := hB.1.2.2
  have hsea := hB.1.2.1
  refine lv_aload_n hx hb dX3_sell_0 rfl (lv_at hl 0 rfl) ?_
  refine lv_iload_n hx hb dX3_sell_1 rfl (lv_at hl 1 rfl) ?_
  refine k_mci (As := [.int (iI f)]) (rest := []) ⟨hx, hb, hml, hown, hts⟩ (m_isFarmer l G ad cy hI σ f (by omega) hcnt) (cwV 1 hts gX3_sell_X3_isFarmer rfl rfl rfl (by decide +kernel) ⟨Nat.le_of_ble_eq_true rfl, Nat.le_of_ble_eq_true rfl⟩) (mRecv hK hP) hAc hA hK hP hS rfl hl.1 rfl (Nat.le_of_ble_eq_true rfl) dX3_sell_2 ⟨Nat.zero_le _, Nat.zero_le _⟩ (fun H locs hP hS => ?_)
  refine k_if_eq (tgt := 22) hx hb dX3_sell_5 (by decide) (gIn_nB _ _ _) (fun c_1 => ?_) (fun c_1 => ?_)
  · have d_1 := c_1
    rw [gIn_0] at d_1
    refine k_iconst hx hb dX3_sell_22 ?_
    refine lv_istore_n (lv' := [(3, .int (iI 0)), (0, .ref (ad 0)), (1, .int (iI f)), (2, .int (iI u))]) hx hb dX3_sell_23 rfl hl (by decide) rfl (fun ls hl => ?_)
    refine lv_aload_n hx hb dX3_sell_24 rfl (lv_at hl 1 rfl) ?_
    refine lv_aload_n hx hb dX3_sell_25 rfl (lv_at hl 1 rfl) ?_
    refine lv_iload_n hx hb dX3_sell_26 rfl (lv_at hl 2 rfl) ?_
    refine k_mci (As := [.int (iI f)]) (rest := [.ref (ad 0)]) ⟨hx, hb, hml, hown, hts⟩ (m_isFarmer l G ad cy hI σ f (by omega) hcnt) (cwV 1 hts gX3_sell_X3_isFarmer rfl rfl rfl (by decide +kernel) ⟨Nat.le_of_ble_eq_true rfl, Nat.le_of_ble_eq_true rfl⟩) (mRecv hK hP) hAc hA hK hP hS rfl hl.1 rfl (Nat.le_of_ble_eq_true rfl) dX3_sell_27 ⟨Nat.zero_le _, Nat.zero_le _⟩ (fun H locs hP hS => ?_)
    refine k_if_ne (tgt := 37) hx hb dX3_sell_30 (by decide) (gIn_nB _ _ _) (fun c9 => absurd c9 (by omega)) (fun _ => ?_)
    refine k_iconst hx hb dX3_sell_33 ?_
    refine lv_goto (tgt := 60) hx hb dX3_sell_34 (by decide) ?_
    refine k_mci (As := [.int (iI 1)]) (rest := []) ⟨hx, hb, hml, hown, hts⟩ (m_refused l G ad cy hI σ 1 (by decide)) (cwV 1 hts gX3_sell_X3_refused rfl rfl rfl (by decide +kernel) ⟨Nat.le_of_ble_eq_true rfl, Nat.le_of_ble_eq_true rfl⟩) (mRecv hK hP) hAc hA hK hP hS rfl hl.1 rfl (Nat.le_of_ble_eq_true rfl) dX3_sell_60 ⟨Nat.zero_le _, Nat.zero_le _⟩ (fun H locs hP hS => ?_)
    refine k_if_eq (tgt := 68) hx hb dX3_sell_63 (by decide) (gNz_nB _) (fun c9 => absurd c9 (by decide)) (fun _ => ?_)
    refine k_iconst hx hb dX3_sell_66 ?_
    have eQ : qSell σ f u = 1 := by unfold qSell; (repeat' split) <;> first | rfl | omega
    have eF : up σ 0 0 1 = tOf (qSell σ f u) σ (gSell σ f u) := by (rw [tOf_n eQ (by decide)]); try (rfl)
    rw [eF] at hP
    have eR : 0 = rOf (qSell σ f u) (u * gPr σ f) := by (rw [rOf_n eQ (by decide)]); try (rfl)
    exact W.iret hx hb hr (fun t ht hW => ⟨⟨_, _, rfl, ⟨congrArg iI eR, rfl⟩, by rw [ht]; exact hP, va_K.moved hW.alike hK⟩, hS.F ht⟩) hS.2.2 dX3_sell_67
  · have d_1 := c_1
    rw [gIn_0] at d_1
    obtain ⟨a5, a6, a7, a9, a10, a11, a13, a14, a15, a16, a17⟩ := hB.2.2 f.toNat (by omega)
    obtain ⟨b2, b3⟩ := hB.2.1.1 (σ 7 f.toNat).toNat (by omega)
    have gl := gLimit_b hB (f := f) (by omega) (by omega)
    refine lv_iload_n hx hb dX3_sell_8 rfl (lv_at hl 2 rfl) ?_
    refine k_iconst hx hb dX3_sell_9 ?_
    refine k_ldc hx hb (1000000) hown lc125 (by decide) dX3_sell_10 ?_
    refine k_msi (As := [.int (iI u), .int (iI 1), .int (iI 1000000)]) (rest := []) ⟨hx, hb, hml, hown, hts⟩ (m_in l G ad cy hI σ u 1 1000000 (by omega) (by decide) (by decide)) (va_cwS 3 hts gX3_sell_X3_in rfl rfl rfl (by decide +kernel) ⟨Nat.le_of_ble_eq_true rfl, Nat.le_of_ble_eq_true rfl⟩) hAc hA hK hP hS rfl hl.1 rfl (Nat.le_of_ble_eq_true rfl) dX3_sell_12 ⟨Nat.zero_le _, Nat.zero_le _⟩ (fun H locs hP hS => ?_)
    refine k_if_eq (tgt := 22) hx hb dX3_sell_15 (by decide) (gIn_nB _ _ _) (fun c_4 => ?_) (fun c_4 => ?_)
    · have d_4 := c_4
      rw [gIn_0] at d_4
      refine k_iconst hx hb dX3_sell_22 ?_
      refine lv_istore_n (lv' := [(3, .int (iI 0)), (0, .ref (ad 0)), (1, .int (iI f)), (2, .int (iI u))]) hx hb dX3_sell_23 rfl hl (by decide) rfl (fun ls hl => ?_)
      refine lv_aload_n hx hb dX3_sell_24 rfl (lv_at hl 1 rfl) ?_
      refine lv_aload_n hx hb dX3_sell_25 rfl (lv_at hl 1 rfl) ?_
      refine lv_iload_n hx hb dX3_sell_26 rfl (lv_at hl 2 rfl) ?_
      refine k_mci (As := [.int (iI f)]) (rest := [.ref (ad 0)]) ⟨hx, hb, hml, hown, hts⟩ (m_isFarmer l G ad cy hI σ f (by omega) hcnt) (cwV 1 hts gX3_sell_X3_isFarmer rfl rfl rfl (by decide +kernel) ⟨Nat.le_of_ble_eq_true rfl, Nat.le_of_ble_eq_true rfl⟩) (mRecv hK hP) hAc hA hK hP hS rfl hl.1 rfl (Nat.le_of_ble_eq_true rfl) dX3_sell_27 ⟨Nat.zero_le _, Nat.zero_le _⟩ (fun H locs hP hS => ?_)
      refine k_if_ne (tgt := 37) hx hb dX3_sell_30 (by decide) (gIn_nB _ _ _) (fun _ => ?_) (fun c9 => absurd c9 (by omega))
      refine lv_iload_n hx hb dX3_sell_37 rfl (lv_at hl 0 rfl) ?_
      refine k_if_ne (tgt := 45) hx hb dX3_sell_38 (by decide) (by decide) (fun c9 => absurd c9 (by decide)) (fun _ => ?_)
      refine k_iconst hx hb dX3_sell_41 ?_
      refine lv_goto (tgt := 60) hx hb dX3_sell_42 (by decide) ?_
      refine k_mci (As := [.int (iI 2)]) (rest := []) ⟨hx, hb, hml, hown, hts⟩ (m_refused l G ad cy hI σ 2 (by decide)) (cwV 1 hts gX3_sell_X3_refused rfl rfl rfl (by decide +kernel) ⟨Nat.le_of_ble_eq_true rfl, Nat.le_of_ble_eq_true rfl⟩) (mRecv hK hP) hAc hA hK hP hS rfl hl.1 rfl (Nat.le_of_ble_eq_true rfl) dX3_sell_60 ⟨Nat.zero_le _, Nat.zero_le _⟩ (fun H locs hP hS => ?_)
      refine k_if_eq (tgt := 68) hx hb dX3_sell_63 (by decide) (gNz_nB _) (fun c9 => absurd c9 (by decide)) (fun _ => ?_)
      refine k_iconst hx hb dX3_sell_66 ?_
      have eQ : qSell σ f u = 2 := by unfold qSell; (repeat' split) <;> first | rfl | omega
      have eF : up σ 0 0 2 = tOf (qSell σ f u) σ (gSell σ f u) := by (rw [tOf_n eQ (by decide)]); try (rfl)
      rw [eF] at hP
      have eR : 0 = rOf (qSell σ f u) (u * gPr σ f) := by (rw [rOf_n eQ (by decide)]); try (rfl)
      exact W.iret hx hb hr (fun t ht hW => ⟨⟨_, _, rfl, ⟨congrArg iI eR, rfl⟩, by rw [ht]; exact hP, va_K.moved hW.alike hK⟩, hS.F ht⟩) hS.2.2 dX3_sell_67
    · have d_4 := c_4
      rw [gIn_0] at d_4
      refine k_iconst hx hb dX3_sell_18 ?_
      refine lv_goto (tgt := 23) hx hb dX3_sell_19 (by decide) ?_
      refine lv_istore_n (lv' := [(3, .int (iI 1)), (0, .ref (ad 0)), (1, .int (iI f)), (2, .int (iI u))]) hx hb dX3_sell_23 rfl hl (by decide) rfl (fun ls hl => ?_)
      refine lv_aload_n hx hb dX3_sell_24 rfl (lv_at hl 1 rfl) ?_
      refine lv_aload_n hx hb dX3_sell_25 rfl (lv_at hl 1 rfl) ?_
      refine lv_iload_n hx hb dX3_sell_26 rfl (lv_at hl 2 rfl) ?_
      refine k_mci (As := [.int (iI f)]) (rest := [.ref (ad 0)]) ⟨hx, hb, hml, hown, hts⟩ (m_isFarmer l G ad cy hI σ f (by omega) hcnt) (cwV 1 hts gX3_sell_X3_isFarmer rfl rfl rfl (by decide +kernel) ⟨Nat.le_of_ble_eq_true rfl, Nat.le_of_ble_eq_true rfl⟩) (mRecv hK hP) hAc hA hK hP hS rfl hl.1 rfl (Nat.le_of_ble_eq_true rfl) dX3_sell_27 ⟨Nat.zero_le _, Nat.zero_le _⟩ (fun H locs hP hS => ?_)
      refine k_if_ne (tgt := 37) hx hb dX3_sell_30 (by decide) (gIn_nB _ _ _) (fun _ => ?_) (fun c9 => absurd c9 (by omega))
      refine lv_iload_n hx hb dX3_sell_37 rfl (lv_at hl 0 rfl) ?_
      refine k_if_ne (tgt := 45) hx hb dX3_sell_38 (by decide) (by decide) (fun _ => ?_) (fun c9 => absurd c9 (by decide))
      refine lv_aload_n hx hb dX3_sell_45 rfl (lv_at hl 1 rfl) ?_
      refine k_mg (v := .ref (ad 8)) hx hb hts hown hF3 hK hP 11 (by decide) lf31 dX3_sell_46 rfl rfl ?_
      refine lv_iload_n hx hb dX3_sell_49 rfl (lv_at hl 2 rfl) ?_
      refine k_mld (q := 8) (N := 8) (x := f) hx hb hK hP (by decide) rfl (by omega) (by omega) (by decide) dX3_sell_50 ?_
      refine lv_iload_n hx hb dX3_sell_51 rfl (lv_at hl 3 rfl) ?_
      refine k_icmp_ge (tgt := 59) hx hb dX3_sell_52 (by decide) (by omega) (by omega) (fun c_8 => ?_) (fun c_8 => ?_)
      · refine k_iconst hx hb dX3_sell_59 ?_
        refine k_mci (As := [.int (iI 0)]) (rest := []) ⟨hx, hb, hml, hown, hts⟩ (m_refused l G ad cy hI σ 0 (by decide)) (cwV 1 hts gX3_sell_X3_refused rfl rfl rfl (by decide +kernel) ⟨Nat.le_of_ble_eq_true rfl, Nat.le_of_ble_eq_true rfl⟩) (mRecv hK hP) hAc hA hK hP hS rfl hl.1 rfl (Nat.le_of_ble_eq_true rfl) dX3_sell_60 ⟨Nat.zero_le _, Nat.zero_le _⟩ (fun H locs hP hS => ?_)
        refine k_if_eq (tgt := 68) hx hb dX3_sell_63 (by decide) (gNz_nB _) (fun _ => ?_) (fun c9 => absurd c9 (by decide))
        refine lv_aload_n hx hb dX3_sell_68 rfl (lv_at hl 1 rfl) ?_
        refine k_mg (v := .ref (ad 2)) hx hb hts hown hF3 hK hP 4 (by decide) lf13 dX3_sell_69 rfl rfl ?_
        refine lv_aload_n hx hb dX3_sell_72 rfl (lv_at hl 1 rfl) ?_
        refine k_mg (v := .ref (ad 7)) hx hb hts hown hF3 hK hP 10 (by decide) lf28 dX3_sell_73 rfl rfl ?_
        refine lv_iload_n hx hb dX3_sell_76 rfl (lv_at hl 2 rfl) ?_
        refine k_mld (q := 7) (N := 8) (x := f) hx hb hK hP (by decide) rfl (by omega) (by omega) (by decide) dX3_sell_77 ?_
        rw [show (up σ 0 0 0) 7 (f).toNat = σ 7 f.toNat by simp [up]]
        refine k_mld (q := 2) (N := 3) (x := σ 7 f.toNat) hx hb hK hP (by decide) rfl (by omega) (by omega) (by decide) dX3_sell_78 ?_
        rw [show (up σ 0 0 0) 2 (σ 7 f.toNat).toNat = σ 2 ((σ 7 f.toNat).toNat) by simp [up]]
        refine lv_istore (lv' := [(4, .int (iI (σ 2 ((σ 7 f.toNat).toNat)))), (3, .int (iI 1)), (0, .ref (ad 0)), (1, .int (iI f)), (2, .int (iI u))]) hx hb dX3_sell_79 hl (by decide) rfl (fun ls hl => ?_)
        refine lv_aload_n hx hb dX3_sell_81 rfl (lv_at hl 2 rfl) ?_
        refine k_mg (v := .ref (ad 8)) hx hb hts hown hF3 hK hP 11 (by decide) lf31 dX3_sell_82 rfl rfl ?_
        refine lv_iload_n hx hb dX3_sell_85 rfl (lv_at hl 3 rfl) ?_
        refine k_mld (q := 8) (N := 8) (x := f) hx hb hK hP (by decide) rfl (by omega) (by omega) (by decide) dX3_sell_86 ?_
        rw [show (up σ 0 0 0) 8 (f).toNat = σ 8 f.toNat by simp [up]]
        refine lv_aload_n hx hb dX3_sell_87 rfl (lv_at hl 2 rfl) ?_
        refine k_mg (v := .ref (ad 9)) hx hb hts hown hF3 hK hP 12 (by decide) lf34 dX3_sell_88 rfl rfl ?_
        refine lv_iload_n hx hb dX3_sell_91 rfl (lv_at hl 3 rfl) ?_
        refine k_mld (q := 9) (N := 8) (x := f) hx hb hK hP (by decide) rfl (by omega) (by omega) (by decide) dX3_sell_92 ?_
        rw [show (up σ 0 0 0) 9 (f).toNat = σ 9 f.toNat by simp [up]]
        refine k_isub hx hb dX3_sell_93 ?_
        refine lv_istore (lv' := [(5, .int (iI ((σ 8 f.toNat) - (σ 9 f.toNat)))), (4, .int (iI (σ 2 ((σ 7 f.toNat).toNat)))), (3, .int (iI 1)), (0, .ref (ad 0)), (1, .int (iI f)), (2, .int (iI u))]) hx hb dX3_sell_94 hl (by decide) rfl (fun ls hl => ?_)
        have J_10 : W p l e (headSpec wsX3_sell ({ frames := 2, cells := 0, slots := 0, locals := 47 } : Room)).room s m ([.ref (ad 0), .int (iI f), .int (iI u)] : List Value).toArray below meth cd H locs 0 0 (MQ below (va_Qi (fun (v9 : Int32) (u9 : Sg) => v9 = iI (rOf (qSell σ f u) (u * gPr σ f)) ∧ u9 = tOf (qSell σ f u) σ (gSell σ f u)) (mB G ad cy) (mA ad s.heap.size)) ([.ref (ad 0), .int (iI f), .int (iI u)] : List Value).toArray s 0 0 (mA ad s.heap.size)) (F0 m 108 ls [.int (iI (mn (σ 8 f.toNat - σ 9 f.toNat) u))]) := by
          refine lv_istore (lv' := [(6, .int (iI (mn (σ 8 f.toNat - σ 9 f.toNat) u))), (5, .int (iI ((σ 8 f.toNat) - (σ 9 f.toNat)))), (4, .int (iI (σ 2 ((σ 7 f.toNat).toNat)))), (3, .int (iI 1)), (0, .ref (ad 0)), (1, .int (iI f)), (2, .int (iI u))]) hx hb dX3_sell_108 hl (by decide) rfl (fun ls hl => ?_)
          have m1 := mn_le1 (σ 8 f.toNat - σ 9 f.toNat) u
          have m2 := mn_le2 (σ 8 f.toNat - σ 9 f.toNat) u
          have m3 := mn_ge (σ 8 f.toNat - σ 9 f.toNat) u 0 (by omega) (by omega)
          have e1 := mulB (⟨m3, by omega⟩ : 0 ≤ (mn (σ 8 f.toNat - σ 9 f.toNat) u) ∧ (mn (σ 8 f.toNat - σ 9 f.toNat) u) ≤ 300000) b2
          have e2 := mulB (⟨by omega, by omega⟩ : 0 ≤ u - (mn (σ 8 f.toNat - σ 9 f.toNat) u) ∧ u - (mn (σ 8 f.toNat - σ 9 f.toNat) u) ≤ 300000) b2
          have m4 := mn_le1 (σ 10 f.toNat) ((u - (mn (σ 8 f.toNat - σ 9 f.toNat) u)) * σ 2 (σ 7 f.toNat).toNat)
          have m5 := mn_le2 (σ 10 f.toNat) ((u - (mn (σ 8 f.toNat - σ 9 f.toNat) u)) * σ 2 (σ 7 f.toNat).toNat)
          have m6 := mn_ge (σ 10 f.toNat) ((u - (mn (σ 8 f.toNat - σ 9 f.toNat) u)) * σ 2 (σ 7 f.toNat).toNat) 0 (by omega) (by omega)
          refine lv_iload_n hx hb dX3_sell_110 rfl (lv_at hl 6 rfl) ?_
          refine lv_iload hx hb dX3_sell_111 (lv_at hl 0 rfl) ?_
          refine k_isub hx hb dX3_sell_113 ?_
          refine lv_istore (lv' := [(7, .int (iI (u - (mn (σ 8 f.toNat - σ 9 f.toNat) u)))), (6, .int (iI (mn (σ 8 f.toNat - σ 9 f.toNat) u))), (5, .int (iI ((σ 8 f.toNat) - (σ 9 f.toNat)))), (4, .int (iI (σ 2 ((σ 7 f.toNat).toNat)))), (3, .int (iI 1)), (0, .ref (ad 0)), (1, .int (iI f)), (2, .int (iI u))]) hx hb dX3_sell_114 hl (by decide) rfl (fun ls hl => ?_)
          refine lv_aload_n hx hb dX3_sell_116 rfl (lv_at hl 5 rfl) ?_
          refine lv_iload_n hx hb dX3_sell_117 rfl (lv_at hl 6 rfl) ?_
          refine lv_iload hx hb dX3_sell_118 (lv_at hl 1 rfl) ?_
          refine lv_iload hx hb dX3_sell_120 (lv_at hl 3 rfl) ?_
          refine k_imul hx hb dX3_sell_122 ?_
          refine k_iconst hx hb dX3_sell_123 ?_
          refine k_mcv (As := [.int (iI f), .int (iI ((mn (σ 8 f.toNat - σ 9 f.toNat) u) * (σ 2 ((σ 7 f.toNat).toNat)))), .int (iI 3)]) (rest := []) ⟨hx, hb, hml, hown, hts⟩ (m_come l G ad cy hI (up σ 0 0 0) f ((mn (σ 8 f.toNat - σ 9 f.toNat) u) * (σ 2 ((σ 7 f.toNat).toNat))) 3 (by omega) (by omega) (by decide) (by omega) (by decide) (by simp [gSell1, gCome, gLower, up]; have m7 := mn_le1 (σ 6 f.toNat) ((mn (σ 8 f.toNat - σ 9 f.toNat) u) * σ 2 (σ 7 f.toNat).toNat); have m8 := mn_ge (σ 6 f.toNat) ((mn (σ 8 f.toNat - σ 9 f.toNat) u) * σ 2 (σ 7 f.toNat).toNat) 0 (by omega) (by omega); have m9 := mn_le2 (σ 6 f.toNat) ((mn (σ 8 f.toNat - σ 9 f.toNat) u) * σ 2 (σ 7 f.toNat).toNat); omega)) (cwV 3 hts gX3_sell_X3_come rfl rfl rfl (by decide +kernel) ⟨Nat.le_of_ble_eq_true rfl, Nat.le_of_ble_eq_true rfl⟩) (mRecv hK hP) hAc hA hK hP hS rfl hl.1 rfl (Nat.le_of_ble_eq_true rfl) dX3_sell_124 ⟨Nat.zero_le _, Nat.zero_le _⟩ (fun H locs hP hS => ?_)
          have J_11 : W p l e (headSpec wsX3_sell ({ frames := 2, cells := 0, slots := 0, locals := 47 } : Room)).room s m ([.ref (ad 0), .int (iI f), .int (iI u)] : List Value).toArray below meth cd H locs 0 0 (MQ below (va_Qi (fun (v9 : Int32) (u9 : Sg) => v9 = iI (rOf (qSell σ f u) (u * gPr σ f)) ∧ u9 = tOf (qSell σ f u) σ (gSell σ f u)) (mB G ad cy) (mA ad s.heap.size)) ([.ref (ad 0), .int (iI f), .int (iI u)] : List Value).toArray s 0 0 (mA ad s.heap.size)) (F0 m 155 ls [.int (iI (mn (σ 10 f.toNat) ((u - (mn (σ 8 f.toNat - σ 9 f.toNat) u)) * σ 2 (σ 7 f.toNat).toNat)))]) := by
            refine lv_istore (lv' := [(8, .int (iI (mn (σ 10 f.toNat) ((u - (mn (σ 8 f.toNat - σ 9 f.toNat) u)) * σ 2 (σ 7 f.toNat).toNat)))), (7, .int (iI (u - (mn (σ 8 f.toNat - σ 9 f.toNat) u)))), (6, .int (iI (mn (σ 8 f.toNat - σ 9 f.toNat) u))), (5, .int (iI ((σ 8 f.toNat) - (σ 9 f.toNat)))), (4, .int (iI (σ 2 ((σ 7 f.toNat).toNat)))), (3, .int (iI 1)), (0, .ref (ad 0)), (1, .int (iI f)), (2, .int (iI u))]) hx hb dX3_sell_155 hl (by decide) rfl (fun ls hl => ?_)
            refine lv_aload_n hx hb dX3_sell_157 rfl (lv_at hl 6 rfl) ?_
            refine k_mg (v := .ref (ad 10)) hx hb hts hown hF3 hK hP 13 (by decide) lf37 dX3_sell_158 rfl rfl ?_
            refine lv_iload_n hx hb dX3_sell_161 rfl (lv_at hl 7 rfl) ?_
            refine lv_dup2_11 hx hb dX3_sell_162 rfl rfl ?_
            refine k_mld (q := 10) (N := 8) (x := f) hx hb hK hP (by decide) rfl (by omega) (by omega) (by decide) dX3_sell_163 ?_
            rw [show (gCome (up σ 0 0 0) f ((mn (σ 8 f.toNat - σ 9 f.toNat) u) * (σ 2 ((σ 7 f.toNat).toNat))) 3) 10 (f).toNat = σ 10 f.toNat by simp [gCome, gLower, up]]
            refine lv_iload hx hb dX3_sell_164 (lv_at hl 0 rfl) ?_
            refine k_isub hx hb dX3_sell_166 ?_
            refine k_mst (q := 10) (N := 8) (x := f) (v := (σ 10 f.toNat) - (mn (σ 10 f.toNat) ((u - (mn (σ 8 f.toNat - σ 9 f.toNat) u)) * σ 2 (σ 7 f.toNat).toNat))) hx hb hI hAc hK hP hS (by decide) rfl (by omega) (by omega) (by decide) dX3_sell_167 (fun H locs hP hS => ?_)
            refine lv_aload_n hx hb dX3_sell_168 rfl (lv_at hl 6 rfl) ?_
            refine lv_iload_n hx hb dX3_sell_169 rfl (lv_at hl 7 rfl) ?_
            refine lv_iload hx hb dX3_sell_170 (lv_at hl 1 rfl) ?_
            refine lv_iload hx hb dX3_sell_172 (lv_at hl 4 rfl) ?_
            refine k_imul hx hb dX3_sell_174 ?_
            refine lv_iload hx hb dX3_sell_175 (lv_at hl 0 rfl) ?_
            refine k_isub hx hb dX3_sell_177 ?_
            refine k_iconst hx hb dX3_sell_178 ?_
            refine k_mcv (As := [.int (iI f), .int (iI (((u - (mn (σ 8 f.toNat - σ 9 f.toNat) u)) * (σ 2 ((σ 7 f.toNat).toNat))) - (mn (σ 10 f.toNat) ((u - (mn (σ 8 f.toNat - σ 9 f.toNat) u)) * σ 2 (σ 7 f.toNat).toNat)))), .int (iI 3)]) (rest := []) ⟨hx, hb, hml, hown, hts⟩ (m_come l G ad cy hI (up (gCome (up σ 0 0 0) f ((mn (σ 8 f.toNat - σ 9 f.toNat) u) * (σ 2 ((σ 7 f.toNat).toNat))) 3) 10 f.toNat ((σ 10 f.toNat) - (mn (σ 10 f.toNat) ((u - (mn (σ 8 f.toNat - σ 9 f.toNat) u)) * σ 2 (σ 7 f.toNat).toNat)))) f (((u - (mn (σ 8 f.toNat - σ 9 f.toNat) u)) * (σ 2 ((σ 7 f.toNat).toNat))) - (mn (σ 10 f.toNat) ((u - (mn (σ 8 f.toNat - σ 9 f.toNat) u)) * σ 2 (σ 7 f.toNat).toNat))) 3 (by omega) (by omega) (by decide) (by omega) (by decide) (by simp [gSell1, gCome, gLower, up]; have m7 := mn_le1 (σ 6 f.toNat) ((mn (σ 8 f.toNat - σ 9 f.toNat) u) * σ 2 (σ 7 f.toNat).toNat); have m8 := mn_ge (σ 6 f.toNat) ((mn (σ 8 f.toNat - σ 9 f.toNat) u) * σ 2 (σ 7 f.toNat).toNat) 0 (by omega) (by omega); have m9 := mn_le2 (σ 6 f.toNat) ((mn (σ 8 f.toNat - σ 9 f.toNat) u) * σ 2 (σ 7 f.toNat).toNat); omega)) (cwV 3 hts gX3_sell_X3_come rfl rfl rfl (by decide +kernel) ⟨Nat.le_of_ble_eq_true rfl, Nat.le_of_ble_eq_true rfl⟩) (mRecv hK hP) hAc hA hK hP hS rfl hl.1 rfl (Nat.le_of_ble_eq_true rfl) dX3_sell_179 ⟨Nat.zero_le _, Nat.zero_le _⟩ (fun H locs hP hS => ?_)
            refine lv_aload_n hx hb dX3_sell_182 rfl (lv_at hl 6 rfl) ?_
            refine k_mg (v := .ref (ad 8)) hx hb hts hown hF3 hK hP 11 (by decide) lf31 dX3_sell_183 rfl rfl ?_
            refine lv_iload_n hx hb dX3_sell_186 rfl (lv_at hl 7 rfl) ?_
            refine lv_dup2_11 hx hb dX3_sell_187 rfl rfl ?_
            refine k_mld (q := 8) (N := 8) (x := f) hx hb hK hP (by decide) rfl (by omega) (by omega) (by decide) dX3_sell_188 ?_
            rw [show (gCome (up (gCome (up σ 0 0 0) f ((mn (σ 8 f.toNat - σ 9 f.toNat) u) * (σ 2 ((σ 7 f.toNat).toNat))) 3) 10 f.toNat ((σ 10 f.toNat) - (mn (σ 10 f.toNat) ((u - (mn (σ 8 f.toNat - σ 9 f.toNat) u)) * σ 2 (σ 7 f.toNat).toNat)))) f (((u - (mn (σ 8 f.toNat - σ 9 f.toNat) u)) * (σ 2 ((σ 7 f.toNat).toNat))) - (mn (σ 10 f.toNat) ((u - (mn (σ 8 f.toNat - σ 9 f.toNat) u)) * σ 2 (σ 7 f.toNat).toNat))) 3) 8 (f).toNat = σ 8 f.toNat by simp [gCome, gLower, up]]
            refine lv_iload_n hx hb dX3_sell_189 rfl (lv_at hl 8 rfl) ?_
            refine k_isub hx hb dX3_sell_190 ?_
            refine k_mst (q := 8) (N := 8) (x := f) (v := (σ 8 f.toNat) - u) hx hb hI hAc hK hP hS (by decide) rfl (by omega) (by omega) (by decide) dX3_sell_191 (fun H locs hP hS => ?_)
            refine lv_aload_n hx hb dX3_sell_192 rfl (lv_at hl 6 rfl) ?_
            refine k_mg (v := .ref (ad 9)) hx hb hts hown hF3 hK hP 12 (by decide) lf34 dX3_sell_193 rfl rfl ?_
            refine lv_iload_n hx hb dX3_sell_196 rfl (lv_at hl 7 rfl) ?_
            refine lv_dup2_11 hx hb dX3_sell_197 rfl rfl ?_
            refine k_mld (q := 9) (N := 8) (x := f) hx hb hK hP (by decide) rfl (by omega) (by omega) (by decide) dX3_sell_198 ?_
            rw [show (up (gCome (up (gCome (up σ 0 0 0) f ((mn (σ 8 f.toNat - σ 9 f.toNat) u) * (σ 2 ((σ 7 f.toNat).toNat))) 3) 10 f.toNat ((σ 10 f.toNat) - (mn (σ 10 f.toNat) ((u - (mn (σ 8 f.toNat - σ 9 f.toNat) u)) * σ 2 (σ 7 f.toNat).toNat)))) f (((u - (mn (σ 8 f.toNat - σ 9 f.toNat) u)) * (σ 2 ((σ 7 f.toNat).toNat))) - (mn (σ 10 f.toNat) ((u - (mn (σ 8 f.toNat - σ 9 f.toNat) u)) * σ 2 (σ 7 f.toNat).toNat))) 3) 8 f.toNat ((σ 8 f.toNat) - u)) 9 (f).toNat = σ 9 f.toNat by simp [gCome, gLower, up]]
            refine lv_iload hx hb dX3_sell_199 (lv_at hl 1 rfl) ?_
            refine k_isub hx hb dX3_sell_201 ?_
            refine k_mst (q := 9) (N := 8) (x := f) (v := (σ 9 f.toNat) - (u - (mn (σ 8 f.toNat - σ 9 f.toNat) u))) hx hb hI hAc hK hP hS (by decide) rfl (by omega) (by omega) (by decide) dX3_sell_202 (fun H locs hP hS => ?_)
            refine lv_aload_n hx hb dX3_sell_203 rfl (lv_at hl 6 rfl) ?_
            refine k_mg (v := .ref (ad 9)) hx hb hts hown hF3 hK hP 12 (by decide) lf34 dX3_sell_204 rfl rfl ?_
            refine lv_iload_n hx hb dX3_sell_207 rfl (lv_at hl 7 rfl) ?_
            refine k_mld (q := 9) (N := 8) (x := f) hx hb hK hP (by decide) rfl (by omega) (by omega) (by decide) dX3_sell_208 ?_
            rw [show (up (up (gCome (up (gCome (up σ 0 0 0) f ((mn (σ 8 f.toNat - σ 9 f.toNat) u) * (σ 2 ((σ 7 f.toNat).toNat))) 3) 10 f.toNat ((σ 10 f.toNat) - (mn (σ 10 f.toNat) ((u - (mn (σ 8 f.toNat - σ 9 f.toNat) u)) * σ 2 (σ 7 f.toNat).toNat)))) f (((u - (mn (σ 8 f.toNat - σ 9 f.toNat) u)) * (σ 2 ((σ 7 f.toNat).toNat))) - (mn (σ 10 f.toNat) ((u - (mn (σ 8 f.toNat - σ 9 f.toNat) u)) * σ 2 (σ 7 f.toNat).toNat))) 3) 8 f.toNat ((σ 8 f.toNat) - u)) 9 f.toNat ((σ 9 f.toNat) - (u - (mn (σ 8 f.toNat - σ 9 f.toNat) u)))) 9 (f).toNat = (σ 9 f.toNat) - (u - (mn (σ 8 f.toNat - σ 9 f.toNat) u)) by simp [up]]
            refine k_if_ne (tgt := 230) hx hb dX3_sell_209 (by decide) (by omega) (fun c_12 => ?_) (fun c_12 => ?_)
            · refine lv_iload_n hx hb dX3_sell_230 rfl (lv_at hl 8 rfl) ?_
              refine lv_iload hx hb dX3_sell_231 (lv_at hl 4 rfl) ?_
              refine k_imul hx hb dX3_sell_233 ?_
              have eQ : qSell σ f u = 0 := by unfold qSell; (repeat' split) <;> first | rfl | omega
              have eF : up (up (gCome (up (gCome (up σ 0 0 0) f ((mn (σ 8 f.toNat - σ 9 f.toNat) u) * (σ 2 ((σ 7 f.toNat).toNat))) 3) 10 f.toNat ((σ 10 f.toNat) - (mn (σ 10 f.toNat) ((u - (mn (σ 8 f.toNat - σ 9 f.toNat) u)) * σ 2 (σ 7 f.toNat).toNat)))) f (((u - (mn (σ 8 f.toNat - σ 9 f.toNat) u)) * (σ 2 ((σ 7 f.toNat).toNat))) - (mn (σ 10 f.toNat) ((u - (mn (σ 8 f.toNat - σ 9 f.toNat) u)) * σ 2 (σ 7 f.toNat).toNat))) 3) 8 f.toNat ((σ 8 f.toNat) - u)) 9 f.toNat ((σ 9 f.toNat) - (u - (mn (σ 8 f.toNat - σ 9 f.toNat) u))) = tOf (qSell σ f u) σ (gSell σ f u) := by (rw [tOf_0 eQ]); try (first | (rw [gSell, if_neg (by unfold gSome; omega)]; rfl) | (rw [gSell, if_pos (by unfold gSome; omega)]; rfl))
              rw [eF] at hP
              have eR : u * (σ 2 ((σ 7 f.toNat).toNat)) = rOf (qSell σ f u) (u * gPr σ f) := by (rw [rOf_0 eQ]); try (rfl)
              exact W.iret hx hb hr (fun t ht hW => ⟨⟨_, _, rfl, ⟨congrArg iI eR, rfl⟩, by rw [ht]; exact hP, va_K.moved hW.alike hK⟩, hS.F ht⟩) hS.2.2 dX3_sell_234
            · refine lv_aload_n hx hb dX3_sell_212 rfl (lv_at hl 6 rfl) ?_
              refine lv_iload_n hx hb dX3_sell_213 rfl (lv_at hl 7 rfl) ?_
              refine lv_aload_n hx hb dX3_sell_214 rfl (lv_at hl 6 rfl) ?_
              refine k_mg (v := .ref (ad 10)) hx hb hts hown hF3 hK hP 13 (by decide) lf37 dX3_sell_215 rfl rfl ?_
              refine lv_iload_n hx hb dX3_sell_218 rfl (lv_at hl 7 rfl) ?_
              refine k_mld (q := 10) (N := 8) (x := f) hx hb hK hP (by decide) rfl (by omega) (by omega) (by decide) dX3_sell_219 ?_
              rw [show (up (up (gCome (up (gCome (up σ 0 0 0) f ((mn (σ 8 f.toNat - σ 9 f.toNat) u) * (σ 2 ((σ 7 f.toNat).toNat))) 3) 10 f.toNat ((σ 10 f.toNat) - (mn (σ 10 f.toNat) ((u - (mn (σ 8 f.toNat - σ 9 f.toNat) u)) * σ 2 (σ 7 f.toNat).toNat)))) f (((u - (mn (σ 8 f.toNat - σ 9 f.toNat) u)) * (σ 2 ((σ 7 f.toNat).toNat))) - (mn (σ 10 f.toNat) ((u - (mn (σ 8 f.toNat - σ 9 f.toNat) u)) * σ 2 (σ 7 f.toNat).toNat))) 3) 8 f.toNat ((σ 8 f.toNat) - u)) 9 f.toNat ((σ 9 f.toNat) - (u - (mn (σ 8 f.toNat - σ 9 f.toNat) u)))) 10 (f).toNat = (σ 10 f.toNat) - (mn (σ 10 f.toNat) ((u - (mn (σ 8 f.toNat - σ 9 f.toNat) u)) * σ 2 (σ 7 f.toNat).toNat)) by simp [gCome, gLower, up]]
              refine k_mcv (As := [.int (iI f), .int (iI ((σ 10 f.toNat) - (mn (σ 10 f.toNat) ((u - (mn (σ 8 f.toNat - σ 9 f.toNat) u)) * σ 2 (σ 7 f.toNat).toNat))))]) (rest := []) ⟨hx, hb, hml, hown, hts⟩ (m_charge l G ad cy hI (up (up (gCome (up (gCome (up σ 0 0 0) f ((mn (σ 8 f.toNat - σ 9 f.toNat) u) * (σ 2 ((σ 7 f.toNat).toNat))) 3) 10 f.toNat ((σ 10 f.toNat) - (mn (σ 10 f.toNat) ((u - (mn (σ 8 f.toNat - σ 9 f.toNat) u)) * σ 2 (σ 7 f.toNat).toNat)))) f (((u - (mn (σ 8 f.toNat - σ 9 f.toNat) u)) * (σ 2 ((σ 7 f.toNat).toNat))) - (mn (σ 10 f.toNat) ((u - (mn (σ 8 f.toNat - σ 9 f.toNat) u)) * σ 2 (σ 7 f.toNat).toNat))) 3) 8 f.toNat ((σ 8 f.toNat) - u)) 9 f.toNat ((σ 9 f.toNat) - (u - (mn (σ 8 f.toNat - σ 9 f.toNat) u)))) f ((σ 10 f.toNat) - (mn (σ 10 f.toNat) ((u - (mn (σ 8 f.toNat - σ 9 f.toNat) u)) * σ 2 (σ 7 f.toNat).toNat))) (by omega) (by omega) (by omega)) (cwV 2 hts gX3_sell_X3_charge rfl rfl rfl (by decide +kernel) ⟨Nat.le_of_ble_eq_true rfl, Nat.le_of_ble_eq_true rfl⟩) (mRecv hK hP) hAc hA hK hP hS rfl hl.1 rfl (Nat.le_of_ble_eq_true rfl) dX3_sell_220 ⟨Nat.zero_le _, Nat.zero_le _⟩ (fun H locs hP hS => ?_)
              refine lv_aload_n hx hb dX3_sell_223 rfl (lv_at hl 6 rfl) ?_
              refine k_mg (v := .ref (ad 10)) hx hb hts hown hF3 hK hP 13 (by decide) lf37 dX3_sell_224 rfl rfl ?_
              refine lv_iload_n hx hb dX3_sell_227 rfl (lv_at hl 7 rfl) ?_
              refine k_iconst hx hb dX3_sell_228 ?_
              refine k_mst (q := 10) (N := 8) (x := f) (v := 0) hx hb hI hAc hK hP hS (by decide) rfl (by omega) (by omega) (by decide) dX3_sell_229 (fun H locs hP hS => ?_)
              refine lv_iload_n hx hb dX3_sell_230 rfl (lv_at hl 8 rfl) ?_
              refine lv_iload hx hb dX3_sell_231 (lv_at hl 4 rfl) ?_
              refine k_imul hx hb dX3_sell_233 ?_
              have eQ : qSell σ f u = 0 := by unfold qSell; (repeat' split) <;> first | rfl | omega
              have eF : up (gCharge (up (up (gCome (up (gCome (up σ 0 0 0) f ((mn (σ 8 f.toNat - σ 9 f.toNat) u) * (σ 2 ((σ 7 f.toNat).toNat))) 3) 10 f.toNat ((σ 10 f.toNat) - (mn (σ 10 f.toNat) ((u - (mn (σ 8 f.toNat - σ 9 f.toNat) u)) * σ 2 (σ 7 f.toNat).toNat)))) f (((u - (mn (σ 8 f.toNat - σ 9 f.toNat) u)) * (σ 2 ((σ 7 f.toNat).toNat))) - (mn (σ 10 f.toNat) ((u - (mn (σ 8 f.toNat - σ 9 f.toNat) u)) * σ 2 (σ 7 f.toNat).toNat))) 3) 8 f.toNat ((σ 8 f.toNat) - u)) 9 f.toNat ((σ 9 f.toNat) - (u - (mn (σ 8 f.toNat - σ 9 f.toNat) u)))) f ((σ 10 f.toNat) - (mn (σ 10 f.toNat) ((u - (mn (σ 8 f.toNat - σ 9 f.toNat) u)) * σ 2 (σ 7 f.toNat).toNat)))) 10 f.toNat 0 = tOf (qSell σ f u) σ (gSell σ f u) := by (rw [tOf_0 eQ]); try (first | (rw [gSell, if_neg (by unfold gSome; omega)]; rfl) | (rw [gSell, if_pos (by unfold gSome; omega)]; rfl))
              rw [eF] at hP
              have eR : u * (σ 2 ((σ 7 f.toNat).toNat)) = rOf (qSell σ f u) (u * gPr σ f) := by (rw [rOf_0 eQ]); try (rfl)
              exact W.iret hx hb hr (fun t ht hW => ⟨⟨_, _, rfl, ⟨congrArg iI eR, rfl⟩, by rw [ht]; exact hP, va_K.moved hW.alike hK⟩, hS.F ht⟩) hS.2.2 dX3_sell_234
          refine lv_iload hx hb dX3_sell_127 (lv_at hl 0 rfl) ?_
          refine lv_iload hx hb dX3_sell_129 (lv_at hl 3 rfl) ?_
          refine k_imul hx hb dX3_sell_131 ?_
          refine lv_aload_n hx hb dX3_sell_132 rfl (lv_at hl 5 rfl) ?_
          refine k_mg (v := .ref (ad 10)) hx hb hts hown hF3 hK hP 13 (by decide) lf37 dX3_sell_133 rfl rfl ?_
          refine lv_iload_n hx hb dX3_sell_136 rfl (lv_at hl 6 rfl) ?_
          refine k_mld (q := 10) (N := 8) (x := f) hx hb hK hP (by decide) rfl (by omega) (by omega) (by decide) dX3_sell_137 ?_
          rw [show (gCome (up σ 0 0 0) f ((mn (σ 8 f.toNat - σ 9 f.toNat) u) * (σ 2 ((σ 7 f.toNat).toNat))) 3) 10 (f).toNat = σ 10 f.toNat by simp [gCome, gLower, up]]
          refine k_icmp_ge (tgt := 149) hx hb dX3_sell_138 (by decide) (by omega) (by omega) (fun c_13 => ?_) (fun c_13 => ?_)
          · refine lv_aload_n hx hb dX3_sell_149 rfl (lv_at hl 5 rfl) ?_
            refine k_mg (v := .ref (ad 10)) hx hb hts hown hF3 hK hP 13 (by decide) lf37 dX3_sell_150 rfl rfl ?_
            refine lv_iload_n hx hb dX3_sell_153 rfl (lv_at hl 6 rfl) ?_
            refine k_mld (q := 10) (N := 8) (x := f) hx hb hK hP (by decide) rfl (by omega) (by omega) (by decide) dX3_sell_154 ?_
            rw [show (gCome (up σ 0 0 0) f ((mn (σ 8 f.toNat - σ 9 f.toNat) u) * (σ 2 ((σ 7 f.toNat).toNat))) 3) 10 (f).toNat = σ 10 f.toNat by simp [gCome, gLower, up]]
            exact (by have e9 : mn (σ 10 f.toNat) ((u - (mn (σ 8 f.toNat - σ 9 f.toNat) u)) * σ 2 (σ 7 f.toNat).toNat) = σ 10 f.toNat := gMin_eq (by omega); rw [e9] at J_11; exact J_11)
          · refine lv_iload hx hb dX3_sell_141 (lv_at hl 0 rfl) ?_
            refine lv_iload hx hb dX3_sell_143 (lv_at hl 3 rfl) ?_
            refine k_imul hx hb dX3_sell_145 ?_
            refine lv_goto (tgt := 155) hx hb dX3_sell_146 (by decide) ?_
            exact (by have e9 : mn (σ 10 f.toNat) ((u - (mn (σ 8 f.toNat - σ 9 f.toNat) u)) * σ 2 (σ 7 f.toNat).toNat) = (u - (mn (σ 8 f.toNat - σ 9 f.toNat) u)) * (σ 2 ((σ 7 f.toNat).toNat)) := gMin_eq (by omega); rw [e9] at J_11; exact J_11)
        refine lv_iload_n hx hb dX3_sell_96 rfl (lv_at hl 5 rfl) ?_
        refine lv_iload hx hb dX3_sell_97 (lv_at hl 0 rfl) ?_
        refine k_icmp_ge (tgt := 106) hx hb dX3_sell_99 (by decide) (by omega) (by omega) (fun c_14 => ?_) (fun c_14 => ?_)
        · refine lv_iload hx hb dX3_sell_106 (lv_at hl 0 rfl) ?_
          exact (by have e9 : mn (σ 8 f.toNat - σ 9 f.toNat) u = (σ 8 f.toNat) - (σ 9 f.toNat) := gMin_eq (by omega); rw [e9] at J_10; exact J_10)
        · refine lv_iload_n hx hb dX3_sell_102 rfl (lv_at hl 5 rfl) ?_
          refine lv_goto (tgt := 108) hx hb dX3_sell_103 (by decide) ?_
          exact (by have e9 : mn (σ 8 f.toNat - σ 9 f.toNat) u = u := gMin_eq (by omega); rw [e9] at J_10; exact J_10)
      · refine k_iconst hx hb dX3_sell_55 ?_
        refine lv_goto (tgt := 60) hx hb dX3_sell_56 (by decide) ?_
        refine k_mci (As := [.int (iI 3)]) (rest := []) ⟨hx, hb, hml, hown, hts⟩ (m_refused l G ad cy hI σ 3 (by decide)) (cwV 1 hts gX3_sell_X3_refused rfl rfl rfl (by decide +kernel) ⟨Nat.le_of_ble_eq_true rfl, Nat.le_of_ble_eq_true rfl⟩) (mRecv hK hP) hAc hA hK hP hS rfl hl.1 rfl (Nat.le_of_ble_eq_true rfl) dX3_sell_60 ⟨Nat.zero_le _, Nat.zero_le _⟩ (fun H locs hP hS => ?_)
        refine k_if_eq (tgt := 68) hx hb dX3_sell_63 (by decide) (gNz_nB _) (fun c9 => absurd c9 (by decide)) (fun _ => ?_)
        refine k_iconst hx hb dX3_sell_66 ?_
        have eQ : qSell σ f u = 3 := by unfold qSell; (repeat' split) <;> first | rfl | omega
        have eF : up σ 0 0 3 = tOf (qSell σ f u) σ (gSell σ f u) := by (rw [tOf_n eQ (by decide)]); try (rfl)
        rw [eF] at hP
        have eR : 0 = rOf (qSell σ f u) (u * gPr σ f) := by (rw [rOf_n eQ (by decide)]); try (rfl)
        exact W.iret hx hb hr (fun t ht hW => ⟨⟨_, _, rfl, ⟨congrArg iI eR, rfl⟩, by rw [ht]; exact hP, va_K.moved hW.alike hK⟩, hS.F ht⟩) hS.2.2 dX3_sell_67
set_option maxHeartbeats 4000000 in
set_option maxRecDepth 100000 in
theorem m_repay (l : Launch) (G : va_G) (ad : Nat → Nat) (cy : Nat → ClassId) (hI : mI ad) (σ : Sg) (f x : Int) (hf : nB f) (hx : nB x) (hB : mBd σ) : mMi l yX3_repay wsX3_repay ({ frames := 2, cells := 0, slots := 0, locals := 43 } : Room) G ad cy [.ref (ad 0), .int (iI f), .int (iI x)] σ (rOf (qRepay σ f x) (gLower (up (up σ 0 0 0) 5 f.toNat (σ 5 f.toNat - x)) f x 0 6 f.toNat)) (tOf (qRepay σ f x) σ (gLower (up (up σ 0 0 0) 5 f.toNat (σ 5 f.toNat - x)) f x 0)) := by
  intro sz
  refine Met.ofW (cc := cX3_repay) (maxL := 5) (ret := (some .int)) (by decide) rfl ?_
  intro p e s m args below meth cd s₁ B hml hv
  obtain ⟨rfl, hsz, hP, hK⟩ := hv
  have hx := B.exec
  have hb := B.bytes
  have hr := B.returns
  have hts := atoms_spec (ws := wsX3_repay) B.pre
  have hown : s.vm.findClass RX3 = some m.cls := findClass_of_methodNamed B.named
  have hlocks := B.notSynchronized
  subst hsz
  have hS : va_S (mA ad s.heap.size) s.heap s.heap [] := va_S.rf
  have hA : ∀ q, s.heap.size ≤ q → mA ad s.heap.size q := fun _ h => Or.inr h
  have hAc : ∀ j, j < 21 → mA ad s.heap.size (ad j) := fun j h => Or.inl ⟨j, h, rfl⟩
  have hl := lv_entry ([.ref (ad 0), .int (iI f), .int (iI x)]) (n := 5) (Nat.le_of_ble_eq_true rfl)
  rw [lg_entry_eq]
  generalize (lg_sl ([.ref (ad 0), .int (iI f), .int (iI x)]) ++ List.replicate (5 - (lg_sl ([.ref (ad 0), .int (iI f), .int (iI x)])).length) Slot.unset).toArray = ls at hl ⊢
  have hl : lv_has ls 5 [(0, .ref (ad 0)), (1, .int (iI f)), (2, .int (iI x))] := hl
  have hF3 : ∀ w ∈ wsX30, w ∈ wsX3_repay := by decide +kernel
  have lc110 := hts (.constant RX3 110 (100000000)) (by decide +kernel)
  have lf25 := hts (.fieldLink RX3 25 "HarvestLenderModel" "debts" "[I") (by decide +kernel)
  have lf22 := hts (.fieldLink RX3 22 "HarvestLenderModel" "purses" "[I") (by decide +kernel)
  have hcnt := hB.1.1
  have hstg := hB.1.2.2
  have hsea := hB.1.2.1
  refine lv_aload_n hx hb dX3_repay_0 rfl (lv_at hl 0 rfl) ?_
  refine lv_iload_n hx hb dX3_repay_1 rfl (lv_at hl 1 rfl) ?_
  refine k_mci (As := [.int (iI f)]) (rest := []) ⟨hx, hb, hml, hown, hts⟩ (m_isFarmer l G ad cy hI σ f (by omega) hcnt) (cwV 1 hts gX3_repay_X3_isFarmer rfl rfl rfl (by decide +kernel) ⟨Nat.le_of_ble_eq_true rfl, Nat.le_of_ble_eq_true rfl⟩) (mRecv hK hP) hAc hA hK hP hS rfl hl.1 rfl (Nat.le_of_ble_eq_true rfl) dX3_repay_2 ⟨Nat.zero_le _, Nat.zero_le _⟩ (fun H locs hP hS => ?_)
  refine k_if_eq (tgt := 22) hx hb dX3_repay_5 (by decide) (gIn_nB _ _ _) (fun c_1 => ?_) (fun c_1 => ?_)
  · have d_1 := c_1
    rw [gIn_0] at d_1
    refine k_iconst hx hb dX3_repay_22 ?_
    refine lv_istore_n (lv' := [(3, .int (iI 0)), (0, .ref (ad 0)), (1, .int (iI f)), (2, .int (iI x))]) hx hb dX3_repay_23 rfl hl (by decide) rfl (fun ls hl => ?_)
    refine lv_iload_n hx hb dX3_repay_24 rfl (lv_at hl 0 rfl) ?_
    refine k_if_eq (tgt := 52) hx hb dX3_repay_25 (by decide) (by decide) (fun _ => ?_) (fun c9 => absurd c9 (by decide))
    refine k_iconst hx hb dX3_repay_52 ?_
    refine lv_istore (lv' := [(4, .int (iI 0)), (3, .int (iI 0)), (0, .ref (ad 0)), (1, .int (iI f)), (2, .int (iI x))]) hx hb dX3_repay_53 hl (by decide) rfl (fun ls hl => ?_)
    refine lv_aload_n hx hb dX3_repay_55 rfl (lv_at hl 2 rfl) ?_
    refine lv_aload_n hx hb dX3_repay_56 rfl (lv_at hl 2 rfl) ?_
    refine lv_iload_n hx hb dX3_repay_57 rfl (lv_at hl 3 rfl) ?_
    refine k_mci (As := [.int (iI f)]) (rest := [.ref (ad 0)]) ⟨hx, hb, hml, hown, hts⟩ (m_isFarmer l G ad cy hI σ f (by omega) hcnt) (cwV 1 hts gX3_repay_X3_isFarmer rfl rfl rfl (by decide +kernel) ⟨Nat.le_of_ble_eq_true rfl, Nat.le_of_ble_eq_true rfl⟩) (mRecv hK hP) hAc hA hK hP hS rfl hl.1 rfl (Nat.le_of_ble_eq_true rfl) dX3_repay_58 ⟨Nat.zero_le _, Nat.zero_le _⟩ (fun H locs hP hS => ?_)
    refine k_if_ne (tgt := 68) hx hb dX3_repay_61 (by decide) (gIn_nB _ _ _) (fun c9 => absurd c9 (by omega)) (fun _ => ?_)
    refine k_iconst hx hb dX3_repay_64 ?_
    refine lv_goto (tgt := 86) hx hb dX3_repay_65 (by decide) ?_
    refine k_mci (As := [.int (iI 1)]) (rest := []) ⟨hx, hb, hml, hown, hts⟩ (m_refused l G ad cy hI σ 1 (by decide)) (cwV 1 hts gX3_repay_X3_refused rfl rfl rfl (by decide +kernel) ⟨Nat.le_of_ble_eq_true rfl, Nat.le_of_ble_eq_true rfl⟩) (mRecv hK hP) hAc hA hK hP hS rfl hl.1 rfl (Nat.le_of_ble_eq_true rfl) dX3_repay_86 ⟨Nat.zero_le _, Nat.zero_le _⟩ (fun H locs hP hS => ?_)
    refine k_if_eq (tgt := 94) hx hb dX3_repay_89 (by decide) (gNz_nB _) (fun c9 => absurd c9 (by decide)) (fun _ => ?_)
    refine k_iconst hx hb dX3_repay_92 ?_
    have eQ : qRepay σ f x = 1 := by unfold qRepay; (repeat' split) <;> first | rfl | omega
    have eF : up σ 0 0 1 = tOf (qRepay σ f x) σ (gLower (up (up σ 0 0 0) 5 f.toNat (σ 5 f.toNat - x)) f x 0) := by (rw [tOf_n eQ (by decide)]); try (rfl)
    rw [eF] at hP
    have eR : 0 = rOf (qRepay σ f x) (gLower (up (up σ 0 0 0) 5 f.toNat (σ 5 f.toNat - x)) f x 0 6 f.toNat) := by (rw [rOf_n eQ (by decide)]); try (rfl)
    exact W.iret hx hb hr (fun t ht hW => ⟨⟨_, _, rfl, ⟨congrArg iI eR, rfl⟩, by rw [ht]; exact hP, va_K.moved hW.alike hK⟩, hS.F ht⟩) hS.2.2 dX3_repay_93
  · have d_1 := c_1
    rw [gIn_0] at d_1
    obtain ⟨a5, a6, a7, a9, a10, a11, a13, a14, a15, a16, a17⟩ := hB.2.2 f.toNat (by omega)
    obtain ⟨b2, b3⟩ := hB.2.1.1 (σ 7 f.toNat).toNat (by omega)
    have gl := gLimit_b hB (f := f) (by omega) (by omega)
    refine lv_iload_n hx hb dX3_repay_8 rfl (lv_at hl 2 rfl) ?_
    refine k_iconst hx hb dX3_repay_9 ?_
    refine k_ldc hx hb (100000000) hown lc110 (by decide) dX3_repay_10 ?_
    refine k_msi (As := [.int (iI x), .int (iI 1), .int (iI 100000000)]) (rest := []) ⟨hx, hb, hml, hown, hts⟩ (m_in l G ad cy hI σ x 1 100000000 (by omega) (by decide) (by decide)) (va_cwS 3 hts gX3_repay_X3_in rfl rfl rfl (by decide +kernel) ⟨Nat.le_of_ble_eq_true rfl, Nat.le_of_ble_eq_true rfl⟩) hAc hA hK hP hS rfl hl.1 rfl (Nat.le_of_ble_eq_true rfl) dX3_repay_12 ⟨Nat.zero_le _, Nat.zero_le _⟩ (fun H locs hP hS => ?_)
    refine k_if_eq (tgt := 22) hx hb dX3_repay_15 (by decide) (gIn_nB _ _ _) (fun c_4 => ?_) (fun c_4 => ?_)
    · have d_4 := c_4
      rw [gIn_0] at d_4
      refine k_iconst hx hb dX3_repay_22 ?_
      refine lv_istore_n (lv' := [(3, .int (iI 0)), (0, .ref (ad 0)), (1, .int (iI f)), (2, .int (iI x))]) hx hb dX3_repay_23 rfl hl (by decide) rfl (fun ls hl => ?_)
      refine lv_iload_n hx hb dX3_repay_24 rfl (lv_at hl 0 rfl) ?_
      refine k_if_eq (tgt := 52) hx hb dX3_repay_25 (by decide) (by decide) (fun _ => ?_) (fun c9 => absurd c9 (by decide))
      refine k_iconst hx hb dX3_repay_52 ?_
      refine lv_istore (lv' := [(4, .int (iI 0)), (3, .int (iI 0)), (0, .ref (ad 0)), (1, .int (iI f)), (2, .int (iI x))]) hx hb dX3_repay_53 hl (by decide) rfl (fun ls hl => ?_)
      refine lv_aload_n hx hb dX3_repay_55 rfl (lv_at hl 2 rfl) ?_
      refine lv_aload_n hx hb dX3_repay_56 rfl (lv_at hl 2 rfl) ?_
      refine lv_iload_n hx hb dX3_repay_57 rfl (lv_at hl 3 rfl) ?_
      refine k_mci (As := [.int (iI f)]) (rest := [.ref (ad 0)]) ⟨hx, hb, hml, hown, hts⟩ (m_isFarmer l G ad cy hI σ f (by omega) hcnt) (cwV 1 hts gX3_repay_X3_isFarmer rfl rfl rfl (by decide +kernel) ⟨Nat.le_of_ble_eq_true rfl, Nat.le_of_ble_eq_true rfl⟩) (mRecv hK hP) hAc hA hK hP hS rfl hl.1 rfl (Nat.le_of_ble_eq_true rfl) dX3_repay_58 ⟨Nat.zero_le _, Nat.zero_le _⟩ (fun H locs hP hS => ?_)
      refine k_if_ne (tgt := 68) hx hb dX3_repay_61 (by decide) (gIn_nB _ _ _) (fun _ => ?_) (fun c9 => absurd c9 (by omega))
      refine lv_iload_n hx hb dX3_repay_68 rfl (lv_at hl 1 rfl) ?_
      refine k_if_ne (tgt := 76) hx hb dX3_repay_69 (by decide) (by decide) (fun c9 => absurd c9 (by decide)) (fun _ => ?_)
      refine k_iconst hx hb dX3_repay_72 ?_
      refine lv_goto (tgt := 86) hx hb dX3_repay_73 (by decide) ?_
      refine k_mci (As := [.int (iI 2)]) (rest := []) ⟨hx, hb, hml, hown, hts⟩ (m_refused l G ad cy hI σ 2 (by decide)) (cwV 1 hts gX3_repay_X3_refused rfl rfl rfl (by decide +kernel) ⟨Nat.le_of_ble_eq_true rfl, Nat.le_of_ble_eq_true rfl⟩) (mRecv hK hP) hAc hA hK hP hS rfl hl.1 rfl (Nat.le_of_ble_eq_true rfl) dX3_repay_86 ⟨Nat.zero_le _, Nat.zero_le _⟩ (fun H locs hP hS => ?_)
      refine k_if_eq (tgt := 94) hx hb dX3_repay_89 (by decide) (gNz_nB _) (fun c9 => absurd c9 (by decide)) (fun _ => ?_)
      refine k_iconst hx hb dX3_repay_92 ?_
      have eQ : qRepay σ f x = 2 := by unfold qRepay; (repeat' split) <;> first | rfl | omega
      have eF : up σ 0 0 2 = tOf (qRepay σ f x) σ (gLower (up (up σ 0 0 0) 5 f.toNat (σ 5 f.toNat - x)) f x 0) := by (rw [tOf_n eQ (by decide)]); try (rfl)
      rw [eF] at hP
      have eR : 0 = rOf (qRepay σ f x) (gLower (up (up σ 0 0 0) 5 f.toNat (σ 5 f.toNat - x)) f x 0 6 f.toNat) := by (rw [rOf_n eQ (by decide)]); try (rfl)
      exact W.iret hx hb hr (fun t ht hW => ⟨⟨_, _, rfl, ⟨congrArg iI eR, rfl⟩, by rw [ht]; exact hP, va_K.moved hW.alike hK⟩, hS.F ht⟩) hS.2.2 dX3_repay_93
    · have d_4 := c_4
      rw [gIn_0] at d_4
      refine k_iconst hx hb dX3_repay_18 ?_
      refine lv_goto (tgt := 23) hx hb dX3_repay_19 (by decide) ?_
      refine lv_istore_n (lv' := [(3, .int (iI 1)), (0, .ref (ad 0)), (1, .int (iI f)), (2, .int (iI x))]) hx hb dX3_repay_23 rfl hl (by decide) rfl (fun ls hl => ?_)
      refine lv_iload_n hx hb dX3_repay_24 rfl (lv_at hl 0 rfl) ?_
      refine k_if_eq (tgt := 52) hx hb dX3_repay_25 (by decide) (by decide) (fun c9 => absurd c9 (by decide)) (fun _ => ?_)
      refine lv_aload_n hx hb dX3_repay_28 rfl (lv_at hl 1 rfl) ?_
      refine k_mg (v := .ref (ad 6)) hx hb hts hown hF3 hK hP 9 (by decide) lf25 dX3_repay_29 rfl rfl ?_
      refine lv_iload_n hx hb dX3_repay_32 rfl (lv_at hl 2 rfl) ?_
      refine k_mld (q := 6) (N := 8) (x := f) hx hb hK hP (by decide) rfl (by omega) (by omega) (by decide) dX3_repay_33 ?_
      refine lv_iload_n hx hb dX3_repay_34 rfl (lv_at hl 3 rfl) ?_
      refine k_icmp_lt (tgt := 52) hx hb dX3_repay_35 (by decide) (by omega) (by omega) (fun c_7 => ?_) (fun c_7 => ?_)
      · refine k_iconst hx hb dX3_repay_52 ?_
        refine lv_istore (lv' := [(4, .int (iI 0)), (3, .int (iI 1)), (0, .ref (ad 0)), (1, .int (iI f)), (2, .int (iI x))]) hx hb dX3_repay_53 hl (by decide) rfl (fun ls hl => ?_)
        refine lv_aload_n hx hb dX3_repay_55 rfl (lv_at hl 2 rfl) ?_
        refine lv_aload_n hx hb dX3_repay_56 rfl (lv_at hl 2 rfl) ?_
        refine lv_iload_n hx hb dX3_repay_57 rfl (lv_at hl 3 rfl) ?_
        refine k_mci (As := [.int (iI f)]) (rest := [.ref (ad 0)]) ⟨hx, hb, hml, hown, hts⟩ (m_isFarmer l G ad cy hI σ f (by omega) hcnt) (cwV 1 hts gX3_repay_X3_isFarmer rfl rfl rfl (by decide +kernel) ⟨Nat.le_of_ble_eq_true rfl, Nat.le_of_ble_eq_true rfl⟩) (mRecv hK hP) hAc hA hK hP hS rfl hl.1 rfl (Nat.le_of_ble_eq_true rfl) dX3_repay_58 ⟨Nat.zero_le _, Nat.zero_le _⟩ (fun H locs hP hS => ?_)
        refine k_if_ne (tgt := 68) hx hb dX3_repay_61 (by decide) (gIn_nB _ _ _) (fun _ => ?_) (fun c9 => absurd c9 (by omega))
        refine lv_iload_n hx hb dX3_repay_68 rfl (lv_at hl 1 rfl) ?_
        refine k_if_ne (tgt := 76) hx hb dX3_repay_69 (by decide) (by decide) (fun _ => ?_) (fun c9 => absurd c9 (by decide))
        refine lv_iload hx hb dX3_repay_76 (lv_at hl 0 rfl) ?_
        refine k_if_eq (tgt := 85) hx hb dX3_repay_78 (by decide) (by decide) (fun _ => ?_) (fun c9 => absurd c9 (by decide))
        refine k_iconst hx hb dX3_repay_85 ?_
        refine k_mci (As := [.int (iI 3)]) (rest := []) ⟨hx, hb, hml, hown, hts⟩ (m_refused l G ad cy hI σ 3 (by decide)) (cwV 1 hts gX3_repay_X3_refused rfl rfl rfl (by decide +kernel) ⟨Nat.le_of_ble_eq_true rfl, Nat.le_of_ble_eq_true rfl⟩) (mRecv hK hP) hAc hA hK hP hS rfl hl.1 rfl (Nat.le_of_ble_eq_true rfl) dX3_repay_86 ⟨Nat.zero_le _, Nat.zero_le _⟩ (fun H locs hP hS => ?_)
        refine k_if_eq (tgt := 94) hx hb dX3_repay_89 (by decide) (gNz_nB _) (fun c9 => absurd c9 (by decide)) (fun _ => ?_)
        refine k_iconst hx hb dX3_repay_92 ?_
        have eQ : qRepay σ f x = 3 := by unfold qRepay; (repeat' split) <;> first | rfl | omega
        have eF : up σ 0 0 3 = tOf (qRepay σ f x) σ (gLower (up (up σ 0 0 0) 5 f.toNat (σ 5 f.toNat - x)) f x 0) := by (rw [tOf_n eQ (by decide)]); try (rfl)
        rw [eF] at hP
        have eR : 0 = rOf (qRepay σ f x) (gLower (up (up σ 0 0 0) 5 f.toNat (σ 5 f.toNat - x)) f x 0 6 f.toNat) := by (rw [rOf_n eQ (by decide)]); try (rfl)
        exact W.iret hx hb hr (fun t ht hW => ⟨⟨_, _, rfl, ⟨congrArg iI eR, rfl⟩, by rw [ht]; exact hP, va_K.moved hW.alike hK⟩, hS.F ht⟩) hS.2.2 dX3_repay_93
      · refine lv_aload_n hx hb dX3_repay_38 rfl (lv_at hl 1 rfl) ?_
        refine k_mg (v := .ref (ad 5)) hx hb hts hown hF3 hK hP 8 (by decide) lf22 dX3_repay_39 rfl rfl ?_
        refine lv_iload_n hx hb dX3_repay_42 rfl (lv_at hl 2 rfl) ?_
        refine k_mld (q := 5) (N := 8) (x := f) hx hb hK hP (by decide) rfl (by omega) (by omega) (by decide) dX3_repay_43 ?_
        refine lv_iload_n hx hb dX3_repay_44 rfl (lv_at hl 3 rfl) ?_
        refine k_icmp_lt (tgt := 52) hx hb dX3_repay_45 (by decide) (by omega) (by omega) (fun c_10 => ?_) (fun c_10 => ?_)
        · refine k_iconst hx hb dX3_repay_52 ?_
          refine lv_istore (lv' := [(4, .int (iI 0)), (3, .int (iI 1)), (0, .ref (ad 0)), (1, .int (iI f)), (2, .int (iI x))]) hx hb dX3_repay_53 hl (by decide) rfl (fun ls hl => ?_)
          refine lv_aload_n hx hb dX3_repay_55 rfl (lv_at hl 2 rfl) ?_
          refine lv_aload_n hx hb dX3_repay_56 rfl (lv_at hl 2 rfl) ?_
          refine lv_iload_n hx hb dX3_repay_57 rfl (lv_at hl 3 rfl) ?_
          refine k_mci (As := [.int (iI f)]) (rest := [.ref (ad 0)]) ⟨hx, hb, hml, hown, hts⟩ (m_isFarmer l G ad cy hI σ f (by omega) hcnt) (cwV 1 hts gX3_repay_X3_isFarmer rfl rfl rfl (by decide +kernel) ⟨Nat.le_of_ble_eq_true rfl, Nat.le_of_ble_eq_true rfl⟩) (mRecv hK hP) hAc hA hK hP hS rfl hl.1 rfl (Nat.le_of_ble_eq_true rfl) dX3_repay_58 ⟨Nat.zero_le _, Nat.zero_le _⟩ (fun H locs hP hS => ?_)
          refine k_if_ne (tgt := 68) hx hb dX3_repay_61 (by decide) (gIn_nB _ _ _) (fun _ => ?_) (fun c9 => absurd c9 (by omega))
          refine lv_iload_n hx hb dX3_repay_68 rfl (lv_at hl 1 rfl) ?_
          refine k_if_ne (tgt := 76) hx hb dX3_repay_69 (by decide) (by decide) (fun _ => ?_) (fun c9 => absurd c9 (by decide))
          refine lv_iload hx hb dX3_repay_76 (lv_at hl 0 rfl) ?_
          refine k_if_eq (tgt := 85) hx hb dX3_repay_78 (by decide) (by decide) (fun _ => ?_) (fun c9 => absurd c9 (by decide))
          refine k_iconst hx hb dX3_repay_85 ?_
          refine k_mci (As := [.int (iI 3)]) (rest := []) ⟨hx, hb, hml, hown, hts⟩ (m_refused l G ad cy hI σ 3 (by decide)) (cwV 1 hts gX3_repay_X3_refused rfl rfl rfl (by decide +kernel) ⟨Nat.le_of_ble_eq_true rfl, Nat.le_of_ble_eq_true rfl⟩) (mRecv hK hP) hAc hA hK hP hS rfl hl.1 rfl (Nat.le_of_ble_eq_true rfl) dX3_repay_86 ⟨Nat.zero_le _, Nat.zero_le _⟩ (fun H locs hP hS => ?_)
          refine k_if_eq (tgt := 94) hx hb dX3_repay_89 (by decide) (gNz_nB _) (fun c9 => absurd c9 (by decide)) (fun _ => ?_)
          refine k_iconst hx hb dX3_repay_92 ?_
          have eQ : qRepay σ f x = 3 := by unfold qRepay; (repeat' split) <;> first | rfl | omega
          have eF : up σ 0 0 3 = tOf (qRepay σ f x) σ (gLower (up (up σ 0 0 0) 5 f.toNat (σ 5 f.toNat - x)) f x 0) := by (rw [tOf_n eQ (by decide)]); try (rfl)
          rw [eF] at hP
          have eR : 0 = rOf (qRepay σ f x) (gLower (up (up σ 0 0 0) 5 f.toNat (σ 5 f.toNat - x)) f x 0 6 f.toNat) := by (rw [rOf_n eQ (by decide)]); try (rfl)
          exact W.iret hx hb hr (fun t ht hW => ⟨⟨_, _, rfl, ⟨congrArg iI eR, rfl⟩, by rw [ht]; exact hP, va_K.moved hW.alike hK⟩, hS.F ht⟩) hS.2.2 dX3_repay_93
        · refine k_iconst hx hb dX3_repay_48 ?_
          refine lv_goto (tgt := 53) hx hb dX3_repay_49 (by decide) ?_
          refine lv_istore (lv' := [(4, .int (iI 1)), (3, .int (iI 1)), (0, .ref (ad 0)), (1, .int (iI f)), (2, .int (iI x))]) hx hb dX3_repay_53 hl (by decide) rfl (fun ls hl => ?_)
          refine lv_aload_n hx hb dX3_repay_55 rfl (lv_at hl 2 rfl) ?_
          refine lv_aload_n hx hb dX3_repay_56 rfl (lv_at hl 2 rfl) ?_
          refine lv_iload_n hx hb dX3_repay_57 rfl (lv_at hl 3 rfl) ?_
          refine k_mci (As := [.int (iI f)]) (rest := [.ref (ad 0)]) ⟨hx, hb, hml, hown, hts⟩ (m_isFarmer l G ad cy hI σ f (by omega) hcnt) (cwV 1 hts gX3_repay_X3_isFarmer rfl rfl rfl (by decide +kernel) ⟨Nat.le_of_ble_eq_true rfl, Nat.le_of_ble_eq_true rfl⟩) (mRecv hK hP) hAc hA hK hP hS rfl hl.1 rfl (Nat.le_of_ble_eq_true rfl) dX3_repay_58 ⟨Nat.zero_le _, Nat.zero_le _⟩ (fun H locs hP hS => ?_)
          refine k_if_ne (tgt := 68) hx hb dX3_repay_61 (by decide) (gIn_nB _ _ _) (fun _ => ?_) (fun c9 => absurd c9 (by omega))
          refine lv_iload_n hx hb dX3_repay_68 rfl (lv_at hl 1 rfl) ?_
          refine k_if_ne (tgt := 76) hx hb dX3_repay_69 (by decide) (by decide) (fun _ => ?_) (fun c9 => absurd c9 (by decide))
          refine lv_iload hx hb dX3_repay_76 (lv_at hl 0 rfl) ?_
          refine k_if_eq (tgt := 85) hx hb dX3_repay_78 (by decide) (by decide) (fun c9 => absurd c9 (by decide)) (fun _ => ?_)
          refine k_iconst hx hb dX3_repay_81 ?_
          refine lv_goto (tgt := 86) hx hb dX3_repay_82 (by decide) ?_
          refine k_mci (As := [.int (iI 0)]) (rest := []) ⟨hx, hb, hml, hown, hts⟩ (m_refused l G ad cy hI σ 0 (by decide)) (cwV 1 hts gX3_repay_X3_refused rfl rfl rfl (by decide +kernel) ⟨Nat.le_of_ble_eq_true rfl, Nat.le_of_ble_eq_true rfl⟩) (mRecv hK hP) hAc hA hK hP hS rfl hl.1 rfl (Nat.le_of_ble_eq_true rfl) dX3_repay_86 ⟨Nat.zero_le _, Nat.zero_le _⟩ (fun H locs hP hS => ?_)
          refine k_if_eq (tgt := 94) hx hb dX3_repay_89 (by decide) (gNz_nB _) (fun _ => ?_) (fun c9 => absurd c9 (by decide))
          refine lv_aload_n hx hb dX3_repay_94 rfl (lv_at hl 2 rfl) ?_
          refine k_mg (v := .ref (ad 5)) hx hb hts hown hF3 hK hP 8 (by decide) lf22 dX3_repay_95 rfl rfl ?_
          refine lv_iload_n hx hb dX3_repay_98 rfl (lv_at hl 3 rfl) ?_
          refine lv_dup2_11 hx hb dX3_repay_99 rfl rfl ?_
          refine k_mld (q := 5) (N := 8) (x := f) hx hb hK hP (by decide) rfl (by omega) (by omega) (by decide) dX3_repay_100 ?_
          rw [show (up σ 0 0 0) 5 (f).toNat = σ 5 f.toNat by simp [up]]
          refine lv_iload_n hx hb dX3_repay_101 rfl (lv_at hl 4 rfl) ?_
          refine k_isub hx hb dX3_repay_102 ?_
          refine k_mst (q := 5) (N := 8) (x := f) (v := (σ 5 f.toNat) - x) hx hb hI hAc hK hP hS (by decide) rfl (by omega) (by omega) (by decide) dX3_repay_103 (fun H locs hP hS => ?_)
          refine lv_aload_n hx hb dX3_repay_104 rfl (lv_at hl 2 rfl) ?_
          refine lv_iload_n hx hb dX3_repay_105 rfl (lv_at hl 3 rfl) ?_
          refine lv_iload_n hx hb dX3_repay_106 rfl (lv_at hl 4 rfl) ?_
          refine k_iconst hx hb dX3_repay_107 ?_
          refine k_mcv (As := [.int (iI f), .int (iI x), .int (iI 0)]) (rest := []) ⟨hx, hb, hml, hown, hts⟩ (m_lower l G ad cy hI (up (up σ 0 0 0) 5 f.toNat ((σ 5 f.toNat) - x)) f x 0 (by omega) (by omega) (by decide) (by omega) (by decide)) (cwV 3 hts gX3_repay_X3_lower rfl rfl rfl (by decide +kernel) ⟨Nat.le_of_ble_eq_true rfl, Nat.le_of_ble_eq_true rfl⟩) (mRecv hK hP) hAc hA hK hP hS rfl hl.1 rfl (Nat.le_of_ble_eq_true rfl) dX3_repay_108 ⟨Nat.zero_le _, Nat.zero_le _⟩ (fun H locs hP hS => ?_)
          refine lv_aload_n hx hb dX3_repay_111 rfl (lv_at hl 2 rfl) ?_
          refine k_mg (v := .ref (ad 6)) hx hb hts hown hF3 hK hP 9 (by decide) lf25 dX3_repay_112 rfl rfl ?_
          refine lv_iload_n hx hb dX3_repay_115 rfl (lv_at hl 3 rfl) ?_
          refine k_mld (q := 6) (N := 8) (x := f) hx hb hK hP (by decide) rfl (by omega) (by omega) (by decide) dX3_repay_116 ?_
          have eQ : qRepay σ f x = 0 := by unfold qRepay; (repeat' split) <;> first | rfl | omega
          have eF : gLower (up (up σ 0 0 0) 5 f.toNat ((σ 5 f.toNat) - x)) f x 0 = tOf (qRepay σ f x) σ (gLower (up (up σ 0 0 0) 5 f.toNat (σ 5 f.toNat - x)) f x 0) := by (rw [tOf_0 eQ]); try (first | rfl | (simp only [up_s]; done) | (simp only [up_s]; repeat' split) <;> first | rfl | (exfalso; omega) | omega)
          rw [eF] at hP
          have eR : (gLower (up (up σ 0 0 0) 5 f.toNat ((σ 5 f.toNat) - x)) f x 0) 6 f.toNat = rOf (qRepay σ f x) (gLower (up (up σ 0 0 0) 5 f.toNat (σ 5 f.toNat - x)) f x 0 6 f.toNat) := by (rw [rOf_0 eQ]); try (first | rfl | (simp only [up_s]; done) | (simp only [up_s]; repeat' split) <;> first | rfl | (exfalso; omega) | omega)
          exact W.iret hx hb hr (fun t ht hW => ⟨⟨_, _, rfl, ⟨congrArg iI eR, rfl⟩, by rw [ht]; exact hP, va_K.moved hW.alike hK⟩, hS.F ht⟩) hS.2.2 dX3_repay_117
set_option maxHeartbeats 4000000 in
set_option maxRecDepth 100000 in
theorem m_repaid (l : Launch) (G : va_G) (ad : Nat → Nat) (cy : Nat → ClassId) (hI : mI ad) (σ : Sg) (f x : Int) (hf : nB f) (hx : nB x) (hB : mBd σ) : mMi l yX3_repaid wsX3_repaid ({ frames := 2, cells := 0, slots := 0, locals := 43 } : Room) G ad cy [.ref (ad 0), .int (iI f), .int (iI x)] σ (rOf (qRepaid σ f x) (σ 19 (5 * f + x).toNat)) (tOf (qRepaid σ f x) σ (up σ 0 0 0)) := by
  intro sz
  refine Met.ofW (cc := cX3_repaid) (maxL := 3) (ret := (some .int)) (by decide) rfl ?_
  intro p e s m args below meth cd s₁ B hml hv
  obtain ⟨rfl, hsz, hP, hK⟩ := hv
  have hx := B.exec
  have hb := B.bytes
  have hr := B.returns
  have hts := atoms_spec (ws := wsX3_repaid) B.pre
  have hown : s.vm.findClass RX3 = some m.cls := findClass_of_methodNamed B.named
  have hlocks := B.notSynchronized
  subst hsz
  have hS : va_S (mA ad s.heap.size) s.heap s.heap [] := va_S.rf
  have hA : ∀ q, s.heap.size ≤ q → mA ad s.heap.size q := fun _ h => Or.inr h
  have hAc : ∀ j, j < 21 → mA ad s.heap.size (ad j) := fun j h => Or.inl ⟨j, h, rfl⟩
  have hl := lv_entry ([.ref (ad 0), .int (iI f), .int (iI x)]) (n := 3) (Nat.le_of_ble_eq_true rfl)
  rw [lg_entry_eq]
  generalize (lg_sl ([.ref (ad 0), .int (iI f), .int (iI x)]) ++ List.replicate (3 - (lg_sl ([.ref (ad 0), .int (iI f), .int (iI x)])).length) Slot.unset).toArray = ls at hl ⊢
  have hl : lv_has ls 3 [(0, .ref (ad 0)), (1, .int (iI f)), (2, .int (iI x))] := hl
  have hF3 : ∀ w ∈ wsX30, w ∈ wsX3_repaid := by decide +kernel
  have lf64 := hts (.fieldLink RX3 64 "HarvestLenderModel" "repaidOf" "[I") (by decide +kernel)
  have hcnt := hB.1.1
  have hstg := hB.1.2.2
  have hsea := hB.1.2.1
  refine lv_aload_n hx hb dX3_repaid_0 rfl (lv_at hl 0 rfl) ?_
  refine lv_aload_n hx hb dX3_repaid_1 rfl (lv_at hl 0 rfl) ?_
  refine lv_iload_n hx hb dX3_repaid_2 rfl (lv_at hl 1 rfl) ?_
  refine k_mci (As := [.int (iI f)]) (rest := [.ref (ad 0)]) ⟨hx, hb, hml, hown, hts⟩ (m_isFarmer l G ad cy hI σ f (by omega) hcnt) (cwV 1 hts gX3_repaid_X3_isFarmer rfl rfl rfl (by decide +kernel) ⟨Nat.le_of_ble_eq_true rfl, Nat.le_of_ble_eq_true rfl⟩) (mRecv hK hP) hAc hA hK hP hS rfl hl.1 rfl (Nat.le_of_ble_eq_true rfl) dX3_repaid_3 ⟨Nat.zero_le _, Nat.zero_le _⟩ (fun H locs hP hS => ?_)
  refine k_if_ne (tgt := 13) hx hb dX3_repaid_6 (by decide) (gIn_nB _ _ _) (fun c_1 => ?_) (fun c_1 => ?_)
  · have d_1 := c_1
    rw [gIn_0] at d_1
    obtain ⟨a5, a6, a7, a9, a10, a11, a13, a14, a15, a16, a17⟩ := hB.2.2 f.toNat (by omega)
    obtain ⟨b2, b3⟩ := hB.2.1.1 (σ 7 f.toNat).toNat (by omega)
    have gl := gLimit_b hB (f := f) (by omega) (by omega)
    refine lv_iload_n hx hb dX3_repaid_13 rfl (lv_at hl 2 rfl) ?_
    refine k_iconst hx hb dX3_repaid_14 ?_
    refine k_iconst hx hb dX3_repaid_15 ?_
    refine k_msi (As := [.int (iI x), .int (iI 0), .int (iI 4)]) (rest := [.ref (ad 0)]) ⟨hx, hb, hml, hown, hts⟩ (m_in l G ad cy hI σ x 0 4 (by omega) (by decide) (by decide)) (va_cwS 3 hts gX3_repaid_X3_in rfl rfl rfl (by decide +kernel) ⟨Nat.le_of_ble_eq_true rfl, Nat.le_of_ble_eq_true rfl⟩) hAc hA hK hP hS rfl hl.1 rfl (Nat.le_of_ble_eq_true rfl) dX3_repaid_16 ⟨Nat.zero_le _, Nat.zero_le _⟩ (fun H locs hP hS => ?_)
    refine k_if_eq (tgt := 26) hx hb dX3_repaid_19 (by decide) (gIn_nB _ _ _) (fun c_2 => ?_) (fun c_2 => ?_)
    · have d_2 := c_2
      rw [gIn_0] at d_2
      refine k_iconst hx hb dX3_repaid_26 ?_
      refine k_mci (As := [.int (iI 2)]) (rest := []) ⟨hx, hb, hml, hown, hts⟩ (m_refused l G ad cy hI σ 2 (by decide)) (cwV 1 hts gX3_repaid_X3_refused rfl rfl rfl (by decide +kernel) ⟨Nat.le_of_ble_eq_true rfl, Nat.le_of_ble_eq_true rfl⟩) (mRecv hK hP) hAc hA hK hP hS rfl hl.1 rfl (Nat.le_of_ble_eq_true rfl) dX3_repaid_27 ⟨Nat.zero_le _, Nat.zero_le _⟩ (fun H locs hP hS => ?_)
      refine k_if_eq (tgt := 37) hx hb dX3_repaid_30 (by decide) (gNz_nB _) (fun c9 => absurd c9 (by decide)) (fun _ => ?_)
      refine k_iconst hx hb dX3_repaid_33 ?_
      refine lv_goto (tgt := 47) hx hb dX3_repaid_34 (by decide) ?_
      have eQ : qRepaid σ f x = 2 := by unfold qRepaid; (repeat' split) <;> first | rfl | omega
      have eF : up σ 0 0 2 = tOf (qRepaid σ f x) σ (up σ 0 0 0) := by (rw [tOf_n eQ (by decide)]); try (rfl)
      rw [eF] at hP
      have eR : 0 = rOf (qRepaid σ f x) (σ 19 (5 * f + x).toNat) := by (rw [rOf_n eQ (by decide)]); try (rfl)
      exact W.iret hx hb hr (fun t ht hW => ⟨⟨_, _, rfl, ⟨congrArg iI eR, rfl⟩, by rw [ht]; exact hP, va_K.moved hW.alike hK⟩, hS.F ht⟩) hS.2.2 dX3_repaid_47
    · have d_2 := c_2
      rw [gIn_0] at d_2
      refine k_iconst hx hb dX3_repaid_22 ?_
      refine lv_goto (tgt := 27) hx hb dX3_repaid_23 (by decide) ?_
      refine k_mci (As := [.int (iI 0)]) (rest := []) ⟨hx, hb, hml, hown, hts⟩ (m_refused l G ad cy hI σ 0 (by decide)) (cwV 1 hts gX3_repaid_X3_refused rfl rfl rfl (by decide +kernel) ⟨Nat.le_of_ble_eq_true rfl, Nat.le_of_ble_eq_true rfl⟩) (mRecv hK hP) hAc hA hK hP hS rfl hl.1 rfl (Nat.le_of_ble_eq_true rfl) dX3_repaid_27 ⟨Nat.zero_le _, Nat.zero_le _⟩ (fun H locs hP hS => ?_)
      refine k_if_eq (tgt := 37) hx hb dX3_repaid_30 (by decide) (gNz_nB _) (fun _ => ?_) (fun c9 => absurd c9 (by decide))
      refine lv_aload_n hx hb dX3_repaid_37 rfl (lv_at hl 0 rfl) ?_
      refine k_mg (v := .ref (ad 19)) hx hb hts hown hF3 hK hP 22 (by decide) lf64 dX3_repaid_38 rfl rfl ?_
      refine k_iconst hx hb dX3_repaid_41 ?_
      refine lv_iload_n hx hb dX3_repaid_42 rfl (lv_at hl 1 rfl) ?_
      refine k_imul hx hb dX3_repaid_43 ?_
      refine lv_iload_n hx hb dX3_repaid_44 rfl (lv_at hl 2 rfl) ?_
      refine k_iadd hx hb dX3_repaid_45 ?_
      refine k_mld (q := 19) (N := 40) (x := (5 * f) + x) hx hb hK hP (by decide) rfl (by omega) (by omega) (by decide) dX3_repaid_46 ?_
      rw [show (up σ 0 0 0) 19 ((5 * f) + x).toNat = σ 19 (((5 * f) + x).toNat) by simp [up]]
      have eQ : qRepaid σ f x = 0 := by unfold qRepaid; (repeat' split) <;> first | rfl | omega
      have eF : up σ 0 0 0 = tOf (qRepaid σ f x) σ (up σ 0 0 0) := by (rw [tOf_0 eQ]); try (first | rfl | (simp only [up_s]; done) | (simp only [up_s]; repeat' split) <;> first | rfl | (exfalso; omega) | omega)
      rw [eF] at hP
      have eR : σ 19 (((5 * f) + x).toNat) = rOf (qRepaid σ f x) (σ 19 (5 * f + x).toNat) := by (rw [rOf_0 eQ]); try (first | rfl | (simp only [up_s]; done) | (simp only [up_s]; repeat' split) <;> first | rfl | (exfalso; omega) | omega)
      exact W.iret hx hb hr (fun t ht hW => ⟨⟨_, _, rfl, ⟨congrArg iI eR, rfl⟩, by rw [ht]; exact hP, va_K.moved hW.alike hK⟩, hS.F ht⟩) hS.2.2 dX3_repaid_47
  · have d_1 := c_1
    rw [gIn_0] at d_1
    refine k_iconst hx hb dX3_repaid_9 ?_
    refine lv_goto (tgt := 27) hx hb dX3_repaid_10 (by decide) ?_
    refine k_mci (As := [.int (iI 1)]) (rest := []) ⟨hx, hb, hml, hown, hts⟩ (m_refused l G ad cy hI σ 1 (by decide)) (cwV 1 hts gX3_repaid_X3_refused rfl rfl rfl (by decide +kernel) ⟨Nat.le_of_ble_eq_true rfl, Nat.le_of_ble_eq_true rfl⟩) (mRecv hK hP) hAc hA hK hP hS rfl hl.1 rfl (Nat.le_of_ble_eq_true rfl) dX3_repaid_27 ⟨Nat.zero_le _, Nat.zero_le _⟩ (fun H locs hP hS => ?_)
    refine k_if_eq (tgt := 37) hx hb dX3_repaid_30 (by decide) (gNz_nB _) (fun c9 => absurd c9 (by decide)) (fun _ => ?_)
    refine k_iconst hx hb dX3_repaid_33 ?_
    refine lv_goto (tgt := 47) hx hb dX3_repaid_34 (by decide) ?_
    have eQ : qRepaid σ f x = 1 := by unfold qRepaid; (repeat' split) <;> first | rfl | omega
    have eF : up σ 0 0 1 = tOf (qRepaid σ f x) σ (up σ 0 0 0) := by (rw [tOf_n eQ (by decide)]); try (rfl)
    rw [eF] at hP
    have eR : 0 = rOf (qRepaid σ f x) (σ 19 (5 * f + x).toNat) := by (rw [rOf_n eQ (by decide)]); try (rfl)
    exact W.iret hx hb hr (fun t ht hW => ⟨⟨_, _, rfl, ⟨congrArg iI eR, rfl⟩, by rw [ht]; exact hP, va_K.moved hW.alike hK⟩, hS.F ht⟩) hS.2.2 dX3_repaid_47
