set_option maxHeartbeats 4000000 in
set_option maxRecDepth 100000 in
theorem c_hasPlanted (l : Launch) (G : va_G) (ad : Nat → Nat) (cy : Nat → ClassId) (hI : cI ad) (σ : Sg) (i : Nat) (hi : i < 8) (h12 : nB (σ (9 + i) 12)) : cMi l yX1_hasPlanted wsX1_hasPlanted ({ frames := 0, cells := 0, slots := 0, locals := 0 } : Room) G ad cy [.ref (ad (9 + i))] σ (fPlanted σ i) σ := by
  intro sz
  refine Met.ofW (cc := cX1_hasPlanted) (maxL := 1) (ret := (some .boolean)) (by decide) rfl ?_
  intro p e s m args below meth cd s₁ B hml hv
  obtain ⟨rfl, hsz, hP, hK⟩ := hv
  have hx := B.exec
  have hb := B.bytes
  have hr := B.returns
  have hts := atoms_spec (ws := wsX1_hasPlanted) B.pre
  have hown : s.vm.findClass RX1 = some m.cls := findClass_of_methodNamed B.named
  have hlocks := B.notSynchronized
  subst hsz
  have hS : va_S (cA ad s.heap.size) s.heap s.heap [] := va_S.rf
  have hA : ∀ q, s.heap.size ≤ q → cA ad s.heap.size q := fun _ h => Or.inr h
  have hAc : ∀ j, j < 33 → cA ad s.heap.size (ad j) := fun j h => Or.inl ⟨j, h, rfl⟩
  have hl := lv_entry ([.ref (ad (9 + i))]) (n := 1) (Nat.le_of_ble_eq_true rfl)
  rw [lg_entry_eq]
  generalize (lg_sl ([.ref (ad (9 + i))]) ++ List.replicate (1 - (lg_sl ([.ref (ad (9 + i))])).length) Slot.unset).toArray = ls at hl ⊢
  have hl : lv_has ls 1 [(0, .ref (ad (9 + i)))] := hl
  have hF1 : ∀ w ∈ wsX10, w ∈ wsX1_hasPlanted := by decide +kernel
  have lf50 := hts (.fieldLink RX1 50 "HarvestLender$Farmer" "plantedCrop" "I") (by decide +kernel)
  refine lv_aload_n hx hb dX1_hasPlanted_0 rfl (lv_at hl 0 rfl) ?_
  refine k_gF (i := i) (v := .int (iI (σ (9 + i) 12))) hx hb hts hown hF1 hK hP hi 12 (by decide) lf50 dX1_hasPlanted_1 rfl rfl ?_
  refine k_iconst hx hb dX1_hasPlanted_4 ?_
  refine k_icmp_eq (tgt := 12) hx hb dX1_hasPlanted_5 (by decide) h12 (by decide) (fun c_1 => ?_) (fun c_1 => ?_)
  · refine k_iconst hx hb dX1_hasPlanted_12 ?_
    have eR : 0 = fPlanted σ i := by first | rfl | (simp only [fPlanted, up_s]; done) | (simp only [fPlanted, up_s]; repeat' split) <;> first | rfl | (exfalso; omega) | omega
    exact W.zret hx hb hr (by decide) (fun t ht hW => ⟨⟨_, _, rfl, ⟨by rw [eR], rfl⟩, by rw [ht]; exact hP, va_K.moved hW.alike hK⟩, hS.F ht⟩) hS.2.2 dX1_hasPlanted_13
  · refine k_iconst hx hb dX1_hasPlanted_8 ?_
    refine lv_goto (tgt := 13) hx hb dX1_hasPlanted_9 (by decide) ?_
    have eR : 1 = fPlanted σ i := by first | rfl | (simp only [fPlanted, up_s]; done) | (simp only [fPlanted, up_s]; repeat' split) <;> first | rfl | (exfalso; omega) | omega
    exact W.zret hx hb hr (by decide) (fun t ht hW => ⟨⟨_, _, rfl, ⟨by rw [eR], rfl⟩, by rw [ht]; exact hP, va_K.moved hW.alike hK⟩, hS.F ht⟩) hS.2.2 dX1_hasPlanted_13
set_option maxHeartbeats 4000000 in
set_option maxRecDepth 100000 in
theorem c_freeGrain (l : Launch) (G : va_G) (ad : Nat → Nat) (cy : Nat → ClassId) (hI : cI ad) (σ : Sg) (i : Nat) (hi : i < 8) : cMi l yX1_freeGrain wsX1_freeGrain ({ frames := 0, cells := 0, slots := 0, locals := 0 } : Room) G ad cy [.ref (ad (9 + i))] σ (σ (9 + i) 9 - σ (9 + i) 10) σ := by
  intro sz
  refine Met.ofW (cc := cX1_freeGrain) (maxL := 1) (ret := (some .int)) (by decide) rfl ?_
  intro p e s m args below meth cd s₁ B hml hv
  obtain ⟨rfl, hsz, hP, hK⟩ := hv
  have hx := B.exec
  have hb := B.bytes
  have hr := B.returns
  have hts := atoms_spec (ws := wsX1_freeGrain) B.pre
  have hown : s.vm.findClass RX1 = some m.cls := findClass_of_methodNamed B.named
  have hlocks := B.notSynchronized
  subst hsz
  have hS : va_S (cA ad s.heap.size) s.heap s.heap [] := va_S.rf
  have hA : ∀ q, s.heap.size ≤ q → cA ad s.heap.size q := fun _ h => Or.inr h
  have hAc : ∀ j, j < 33 → cA ad s.heap.size (ad j) := fun j h => Or.inl ⟨j, h, rfl⟩
  have hl := lv_entry ([.ref (ad (9 + i))]) (n := 1) (Nat.le_of_ble_eq_true rfl)
  rw [lg_entry_eq]
  generalize (lg_sl ([.ref (ad (9 + i))]) ++ List.replicate (1 - (lg_sl ([.ref (ad (9 + i))])).length) Slot.unset).toArray = ls at hl ⊢
  have hl : lv_has ls 1 [(0, .ref (ad (9 + i)))] := hl
  have hF1 : ∀ w ∈ wsX10, w ∈ wsX1_freeGrain := by decide +kernel
  have lf41 := hts (.fieldLink RX1 41 "HarvestLender$Farmer" "grain" "I") (by decide +kernel)
  have lf44 := hts (.fieldLink RX1 44 "HarvestLender$Farmer" "pledgedGrain" "I") (by decide +kernel)
  refine lv_aload_n hx hb dX1_freeGrain_0 rfl (lv_at hl 0 rfl) ?_
  refine k_gF (i := i) (v := .int (iI (σ (9 + i) 9))) hx hb hts hown hF1 hK hP hi 9 (by decide) lf41 dX1_freeGrain_1 rfl rfl ?_
  refine lv_aload_n hx hb dX1_freeGrain_4 rfl (lv_at hl 0 rfl) ?_
  refine k_gF (i := i) (v := .int (iI (σ (9 + i) 10))) hx hb hts hown hF1 hK hP hi 10 (by decide) lf44 dX1_freeGrain_5 rfl rfl ?_
  refine k_isub hx hb dX1_freeGrain_8 ?_
  have eR : (σ (9 + i) 9) - (σ (9 + i) 10) = σ (9 + i) 9 - σ (9 + i) 10 := by first | rfl | (simp only [up_s]; done) | (simp only [up_s]; repeat' split) <;> first | rfl | (exfalso; omega) | omega
  exact W.iret hx hb hr (fun t ht hW => ⟨⟨_, _, rfl, ⟨by rw [eR], rfl⟩, by rw [ht]; exact hP, va_K.moved hW.alike hK⟩, hS.F ht⟩) hS.2.2 dX1_freeGrain_9
set_option maxHeartbeats 4000000 in
set_option maxRecDepth 100000 in
theorem c_charge (l : Launch) (G : va_G) (ad : Nat → Nat) (cy : Nat → ClassId) (hI : cI ad) (σ : Sg) (i : Nat) (hi : i < 8) (x : Int) : cMv l yX1_charge wsX1_charge ({ frames := 0, cells := 0, slots := 0, locals := 0 } : Room) G ad cy [.ref (ad (9 + i)), .long (iL x)] σ (fCharge σ i x) := by
  intro sz
  refine Met.ofW (cc := cX1_charge) (maxL := 3) (ret := none) (by decide) rfl ?_
  intro p e s m args below meth cd s₁ B hml hv
  obtain ⟨rfl, hsz, hP, hK⟩ := hv
  have hx := B.exec
  have hb := B.bytes
  have hr := B.returns
  have hts := atoms_spec (ws := wsX1_charge) B.pre
  have hown : s.vm.findClass RX1 = some m.cls := findClass_of_methodNamed B.named
  have hlocks := B.notSynchronized
  subst hsz
  have hS : va_S (cA ad s.heap.size) s.heap s.heap [] := va_S.rf
  have hA : ∀ q, s.heap.size ≤ q → cA ad s.heap.size q := fun _ h => Or.inr h
  have hAc : ∀ j, j < 33 → cA ad s.heap.size (ad j) := fun j h => Or.inl ⟨j, h, rfl⟩
  have hl := lv_entry ([.ref (ad (9 + i)), .long (iL x)]) (n := 3) (Nat.le_of_ble_eq_true rfl)
  rw [lg_entry_eq]
  generalize (lg_sl ([.ref (ad (9 + i)), .long (iL x)]) ++ List.replicate (3 - (lg_sl ([.ref (ad (9 + i)), .long (iL x)])).length) Slot.unset).toArray = ls at hl ⊢
  have hl : lv_has ls 3 [(0, .ref (ad (9 + i))), (1, .long (iL x))] := hl
  have hF1 : ∀ w ∈ wsX10, w ∈ wsX1_charge := by decide +kernel
  have lf19 := hts (.fieldLink RX1 19 "HarvestLender$Farmer" "debt" "J") (by decide +kernel)
  have lf25 := hts (.fieldLink RX1 25 "HarvestLender$Farmer" "charged" "J") (by decide +kernel)
  refine lv_aload_n hx hb dX1_charge_0 rfl (lv_at hl 0 rfl) ?_
  refine lv_dup hx hb dX1_charge_1 rfl ?_
  refine k_gF (i := i) (v := .long (iL (σ (9 + i) 2))) hx hb hts hown hF1 hK hP hi 2 (by decide) lf19 dX1_charge_2 rfl rfl ?_
  refine lv_lload_n hx hb dX1_charge_5 rfl (lv_at hl 1 rfl) ?_
  refine k_ladd hx hb dX1_charge_6 ?_
  refine k_pFl (i := i) (v := (σ (9 + i) 2) + x) hx hb hts hown hF1 hI hAc hK hP hS hi 2 rfl (by decide) lf19 dX1_charge_7 rfl rfl (by decide +kernel) (fun H locs hP hS => ?_)
  refine lv_aload_n hx hb dX1_charge_10 rfl (lv_at hl 0 rfl) ?_
  refine lv_dup hx hb dX1_charge_11 rfl ?_
  refine k_gF (i := i) (v := .long (iL (σ (9 + i) 4))) hx hb hts hown hF1 hK hP hi 4 (by decide) lf25 dX1_charge_12 rfl (congrArg (fun z => some (Value.long (iL z))) (by simp [up] : (up σ (9 + i) 2 ((σ (9 + i) 2) + x)) (9 + i) 4 = σ (9 + i) 4)) ?_
  refine lv_lload_n hx hb dX1_charge_15 rfl (lv_at hl 1 rfl) ?_
  refine k_ladd hx hb dX1_charge_16 ?_
  refine k_pFl (i := i) (v := (σ (9 + i) 4) + x) hx hb hts hown hF1 hI hAc hK hP hS hi 4 rfl (by decide) lf25 dX1_charge_17 rfl rfl (by decide +kernel) (fun H locs hP hS => ?_)
  have eF : up (up σ (9 + i) 2 ((σ (9 + i) 2) + x)) (9 + i) 4 ((σ (9 + i) 4) + x) = fCharge σ i x := by first | rfl | (simp only [fCharge, up_s]; done) | (simp only [fCharge, up_s]; repeat' split) <;> first | rfl | (exfalso; omega) | omega
  rw [eF] at hP
  exact W.vret hx hb hr (fun t ht hW => ⟨⟨_, rfl, rfl, by rw [ht]; exact hP, va_K.moved hW.alike hK⟩, hS.F ht⟩) hS.2.2 dX1_charge_20
set_option maxHeartbeats 4000000 in
set_option maxRecDepth 100000 in
theorem c_interest (l : Launch) (G : va_G) (ad : Nat → Nat) (cy : Nat → ClassId) (hI : cI ad) (σ : Sg) (i : Nat) (hi : i < 8) (h2 : 0 ≤ σ (9 + i) 2 ∧ σ (9 + i) 2 ≤ 2147483647) : cMv l yX1_chargeInterest wsX1_chargeInterest ({ frames := 1, cells := 0, slots := 0, locals := 22 } : Room) G ad cy [.ref (ad (9 + i))] σ (fInterest σ i) := by
  intro sz
  refine Met.ofW (cc := cX1_chargeInterest) (maxL := 1) (ret := none) (by decide) rfl ?_
  intro p e s m args below meth cd s₁ B hml hv
  obtain ⟨rfl, hsz, hP, hK⟩ := hv
  have hx := B.exec
  have hb := B.bytes
  have hr := B.returns
  have hts := atoms_spec (ws := wsX1_chargeInterest) B.pre
  have hown : s.vm.findClass RX1 = some m.cls := findClass_of_methodNamed B.named
  have hlocks := B.notSynchronized
  subst hsz
  have hS : va_S (cA ad s.heap.size) s.heap s.heap [] := va_S.rf
  have hA : ∀ q, s.heap.size ≤ q → cA ad s.heap.size q := fun _ h => Or.inr h
  have hAc : ∀ j, j < 33 → cA ad s.heap.size (ad j) := fun j h => Or.inl ⟨j, h, rfl⟩
  have hl := lv_entry ([.ref (ad (9 + i))]) (n := 1) (Nat.le_of_ble_eq_true rfl)
  rw [lg_entry_eq]
  generalize (lg_sl ([.ref (ad (9 + i))]) ++ List.replicate (1 - (lg_sl ([.ref (ad (9 + i))])).length) Slot.unset).toArray = ls at hl ⊢
  have hl : lv_has ls 1 [(0, .ref (ad (9 + i)))] := hl
  have hF1 : ∀ w ∈ wsX10, w ∈ wsX1_chargeInterest := by decide +kernel
  have lf19 := hts (.fieldLink RX1 19 "HarvestLender$Farmer" "debt" "J") (by decide +kernel)
  have lc65 := hts (.constantLong RX1 65 (2)) (by decide +kernel)
  have lc67 := hts (.constantLong RX1 67 (100)) (by decide +kernel)
  refine lv_aload_n hx hb dX1_chargeInterest_0 rfl (lv_at hl 0 rfl) ?_
  refine lv_aload_n hx hb dX1_chargeInterest_1 rfl (lv_at hl 0 rfl) ?_
  refine k_gF (i := i) (v := .long (iL (σ (9 + i) 2))) hx hb hts hown hF1 hK hP hi 2 (by decide) lf19 dX1_chargeInterest_2 rfl rfl ?_
  refine k_ldc2 hx hb (2) hown lc65 (by decide) dX1_chargeInterest_5 ?_
  refine k_lmul hx hb dX1_chargeInterest_8 ?_
  refine k_ldc2 hx hb (100) hown lc67 (by decide) dX1_chargeInterest_9 ?_
  refine k_ldiv hx hb dX1_chargeInterest_12 (by omega) (by omega) (by decide) (by decide) ?_
  refine k_cv (As := [.long (iL (((σ (9 + i) 2) * 2) / 100))]) (rest := []) ⟨hx, hb, hml, hown, hts⟩ (c_charge l G ad cy hI σ i hi (((σ (9 + i) 2) * 2) / 100)) (cwV 1 hts gX1_chargeInterest_X1_charge rfl rfl rfl (by decide +kernel) ⟨Nat.le_of_ble_eq_true rfl, Nat.le_of_ble_eq_true rfl⟩) (cRecvF hK hP hi) hAc hA hK hP hS rfl hl.1 rfl (Nat.le_of_ble_eq_true rfl) dX1_chargeInterest_13 ⟨Nat.zero_le _, Nat.zero_le _⟩ (fun H locs hP hS => ?_)
  have eF : fCharge σ i (((σ (9 + i) 2) * 2) / 100) = fInterest σ i := by first | rfl | (simp only [fInterest, up_s]; done) | (simp only [fInterest, up_s]; repeat' split) <;> first | rfl | (exfalso; omega) | omega
  rw [eF] at hP
  exact W.vret hx hb hr (fun t ht hW => ⟨⟨_, rfl, rfl, by rw [ht]; exact hP, va_K.moved hW.alike hK⟩, hS.F ht⟩) hS.2.2 dX1_chargeInterest_16
set_option maxHeartbeats 4000000 in
set_option maxRecDepth 100000 in
theorem c_lower (l : Launch) (G : va_G) (ad : Nat → Nat) (cy : Nat → ClassId) (hI : cI ad) (σ : Sg) (i : Nat) (hi : i < 8) (x : Int) (src : Nat) (hsrc : src < 5) : cMv l yX1_lowerDebt wsX1_lowerDebt ({ frames := 0, cells := 0, slots := 0, locals := 0 } : Room) G ad cy [.ref (ad (9 + i)), .long (iL x), .int (iI (src : Int))] σ (fLower σ i x src) := by
  intro sz
  refine Met.ofW (cc := cX1_lowerDebt) (maxL := 4) (ret := none) (by decide) rfl ?_
  intro p e s m args below meth cd s₁ B hml hv
  obtain ⟨rfl, hsz, hP, hK⟩ := hv
  have hx := B.exec
  have hb := B.bytes
  have hr := B.returns
  have hts := atoms_spec (ws := wsX1_lowerDebt) B.pre
  have hown : s.vm.findClass RX1 = some m.cls := findClass_of_methodNamed B.named
  have hlocks := B.notSynchronized
  subst hsz
  have hS : va_S (cA ad s.heap.size) s.heap s.heap [] := va_S.rf
  have hA : ∀ q, s.heap.size ≤ q → cA ad s.heap.size q := fun _ h => Or.inr h
  have hAc : ∀ j, j < 33 → cA ad s.heap.size (ad j) := fun j h => Or.inl ⟨j, h, rfl⟩
  have hl := lv_entry ([.ref (ad (9 + i)), .long (iL x), .int (iI (src : Int))]) (n := 4) (Nat.le_of_ble_eq_true rfl)
  rw [lg_entry_eq]
  generalize (lg_sl ([.ref (ad (9 + i)), .long (iL x), .int (iI (src : Int))]) ++ List.replicate (4 - (lg_sl ([.ref (ad (9 + i)), .long (iL x), .int (iI (src : Int))])).length) Slot.unset).toArray = ls at hl ⊢
  have hl : lv_has ls 4 [(0, .ref (ad (9 + i))), (1, .long (iL x)), (3, .int (iI (src : Int)))] := hl
  have hF1 : ∀ w ∈ wsX10, w ∈ wsX1_lowerDebt := by decide +kernel
  have lf19 := hts (.fieldLink RX1 19 "HarvestLender$Farmer" "debt" "J") (by decide +kernel)
  have lf31 := hts (.fieldLink RX1 31 "HarvestLender$Farmer" "repaid" "[J") (by decide +kernel)
  refine lv_aload_n hx hb dX1_lowerDebt_0 rfl (lv_at hl 0 rfl) ?_
  refine lv_dup hx hb dX1_lowerDebt_1 rfl ?_
  refine k_gF (i := i) (v := .long (iL (σ (9 + i) 2))) hx hb hts hown hF1 hK hP hi 2 (by decide) lf19 dX1_lowerDebt_2 rfl rfl ?_
  refine lv_lload_n hx hb dX1_lowerDebt_5 rfl (lv_at hl 1 rfl) ?_
  refine k_lsub hx hb dX1_lowerDebt_6 ?_
  refine k_pFl (i := i) (v := (σ (9 + i) 2) - x) hx hb hts hown hF1 hI hAc hK hP hS hi 2 rfl (by decide) lf19 dX1_lowerDebt_7 rfl rfl (by decide +kernel) (fun H locs hP hS => ?_)
  refine lv_iload_n hx hb dX1_lowerDebt_10 rfl (lv_at hl 2 rfl) ?_
  refine k_if_lt (tgt := 29) hx hb dX1_lowerDebt_11 (by decide) (by omega) (fun c_1 => absurd c_1 (by omega)) (fun c_1 => ?_)
  refine lv_iload_n hx hb dX1_lowerDebt_14 rfl (lv_at hl 2 rfl) ?_
  refine k_iconst hx hb dX1_lowerDebt_15 ?_
  refine k_icmp_ge (tgt := 29) hx hb dX1_lowerDebt_16 (by decide) (by omega) (by decide) (fun c_2 => absurd c_2 (by omega)) (fun c_2 => ?_)
  refine lv_aload_n hx hb dX1_lowerDebt_19 rfl (lv_at hl 0 rfl) ?_
  refine k_gF (i := i) (v := .ref (ad (17 + i))) hx hb hts hown hF1 hK hP hi 6 (by decide) lf31 dX1_lowerDebt_20 rfl rfl ?_
  refine lv_iload_n hx hb dX1_lowerDebt_23 rfl (lv_at hl 2 rfl) ?_
  refine lv_dup2_11 hx hb dX1_lowerDebt_24 rfl rfl ?_
  refine k_rldN (i := i) (x := src) hx hb hK hP hi (by omega) dX1_lowerDebt_25 ?_
  rw [show (up σ (9 + i) 2 ((σ (9 + i) 2) - x)) (17 + i) src = σ (17 + i) src by simp [up]]
  refine lv_lload_n hx hb dX1_lowerDebt_26 rfl (lv_at hl 1 rfl) ?_
  refine k_ladd hx hb dX1_lowerDebt_27 ?_
  refine k_rstN (i := i) (x := src) (v := (σ (17 + i) src) + x) hx hb hI hAc hK hP hS hi (by omega) dX1_lowerDebt_28 (fun H locs hP hS => ?_)
  have eF : up (up σ (9 + i) 2 ((σ (9 + i) 2) - x)) (17 + i) src ((σ (17 + i) src) + x) = fLower σ i x src := by first | rfl | (simp only [fLower, up_s]; done) | (simp only [fLower, up_s]; repeat' split) <;> first | rfl | (exfalso; omega) | omega
  rw [eF] at hP
  exact W.vret hx hb hr (fun t ht hW => ⟨⟨_, rfl, rfl, by rw [ht]; exact hP, va_K.moved hW.alike hK⟩, hS.F ht⟩) hS.2.2 dX1_lowerDebt_29
set_option maxHeartbeats 4000000 in
set_option maxRecDepth 100000 in
theorem c_receive (l : Launch) (G : va_G) (ad : Nat → Nat) (cy : Nat → ClassId) (hI : cI ad) (σ : Sg) (i : Nat) (hi : i < 8) (x : Int) (src : Nat) (hsrc : src < 5) (hxb : lB x) (h2 : lB (σ (9 + i) 2)) : cMv l yX1_receive wsX1_receive ({ frames := 1, cells := 0, slots := 0, locals := 23 } : Room) G ad cy [.ref (ad (9 + i)), .long (iL x), .int (iI (src : Int))] σ (fReceive σ i x src) := by
  intro sz
  refine Met.ofW (cc := cX1_receive) (maxL := 6) (ret := none) (by decide) rfl ?_
  intro p e s m args below meth cd s₁ B hml hv
  obtain ⟨rfl, hsz, hP, hK⟩ := hv
  have hx := B.exec
  have hb := B.bytes
  have hr := B.returns
  have hts := atoms_spec (ws := wsX1_receive) B.pre
  have hown : s.vm.findClass RX1 = some m.cls := findClass_of_methodNamed B.named
  have hlocks := B.notSynchronized
  subst hsz
  have hS : va_S (cA ad s.heap.size) s.heap s.heap [] := va_S.rf
  have hA : ∀ q, s.heap.size ≤ q → cA ad s.heap.size q := fun _ h => Or.inr h
  have hAc : ∀ j, j < 33 → cA ad s.heap.size (ad j) := fun j h => Or.inl ⟨j, h, rfl⟩
  have hl := lv_entry ([.ref (ad (9 + i)), .long (iL x), .int (iI (src : Int))]) (n := 6) (Nat.le_of_ble_eq_true rfl)
  rw [lg_entry_eq]
  generalize (lg_sl ([.ref (ad (9 + i)), .long (iL x), .int (iI (src : Int))]) ++ List.replicate (6 - (lg_sl ([.ref (ad (9 + i)), .long (iL x), .int (iI (src : Int))])).length) Slot.unset).toArray = ls at hl ⊢
  have hl : lv_has ls 6 [(0, .ref (ad (9 + i))), (1, .long (iL x)), (3, .int (iI (src : Int)))] := hl
  have hF1 : ∀ w ∈ wsX10, w ∈ wsX1_receive := by decide +kernel
  have lf19 := hts (.fieldLink RX1 19 "HarvestLender$Farmer" "debt" "J") (by decide +kernel)
  have lm73 := hts (.methodLink RX1 73 Lib.MathLoose.min_long.x) (by decide +kernel)
  have lms73 := hts (.static Lib.MathLoose.min_long.x) (by decide +kernel)
  have lmi := hts (.initialized "java/lang/Math") (by decide +kernel)
  have lmc73 := hts (.code Lib.MathLoose.min_long.x Lib.MathLoose.min_long.code 4 (some .long)) (by decide +kernel)
  have lf15 := hts (.fieldLink RX1 15 "HarvestLender$Farmer" "purse" "J") (by decide +kernel)
  refine lv_lload_n hx hb dX1_receive_0 rfl (lv_at hl 1 rfl) ?_
  refine lv_aload_n hx hb dX1_receive_1 rfl (lv_at hl 0 rfl) ?_
  refine k_gF (i := i) (v := .long (iL (σ (9 + i) 2))) hx hb hts hown hF1 hK hP hi 2 (by decide) lf19 dX1_receive_2 rfl rfl ?_
  refine k_mminl hx hb (hml.trans hl.1.symm) hown lm73 lms73 lmi lmc73 (Nat.le_of_ble_eq_true rfl) (Nat.le_of_ble_eq_true rfl) (Nat.zero_le _) (Nat.zero_le _) (by omega) (by omega) dX1_receive_5 ?_
  refine lv_lstore (lv' := [(4, .long (iL (mn x (σ (9 + i) 2)))), (0, .ref (ad (9 + i))), (1, .long (iL x)), (3, .int (iI (src : Int)))]) hx hb dX1_receive_8 hl (by decide) rfl (fun ls hl => ?_)
  refine lv_aload_n hx hb dX1_receive_10 rfl (lv_at hl 1 rfl) ?_
  refine lv_lload hx hb dX1_receive_11 (lv_at hl 0 rfl) ?_
  refine lv_iload_n hx hb dX1_receive_13 rfl (lv_at hl 3 rfl) ?_
  refine k_cv (As := [.long (iL (mn x (σ (9 + i) 2))), .int (iI (src : Int))]) (rest := []) ⟨hx, hb, hml, hown, hts⟩ (c_lower l G ad cy hI σ i hi (mn x (σ (9 + i) 2)) src hsrc) (cwV 2 hts gX1_receive_X1_lowerDebt rfl rfl rfl (by decide +kernel) ⟨Nat.le_of_ble_eq_true rfl, Nat.le_of_ble_eq_true rfl⟩) (cRecvF hK hP hi) hAc hA hK hP hS rfl hl.1 rfl (Nat.le_of_ble_eq_true rfl) dX1_receive_14 ⟨Nat.zero_le _, Nat.zero_le _⟩ (fun H locs hP hS => ?_)
  refine lv_aload_n hx hb dX1_receive_17 rfl (lv_at hl 1 rfl) ?_
  refine lv_dup hx hb dX1_receive_18 rfl ?_
  refine k_gF (i := i) (v := .long (iL (σ (9 + i) 1))) hx hb hts hown hF1 hK hP hi 1 (by decide) lf15 dX1_receive_19 rfl (congrArg (fun z => some (Value.long (iL z))) (by simp [fLower, up] : (fLower σ i (mn x (σ (9 + i) 2)) src) (9 + i) 1 = σ (9 + i) 1)) ?_
  refine lv_lload_n hx hb dX1_receive_22 rfl (lv_at hl 2 rfl) ?_
  refine lv_lload hx hb dX1_receive_23 (lv_at hl 0 rfl) ?_
  refine k_lsub hx hb dX1_receive_25 ?_
  refine k_ladd hx hb dX1_receive_26 ?_
  refine k_pFl (i := i) (v := (σ (9 + i) 1) + (x - (mn x (σ (9 + i) 2)))) hx hb hts hown hF1 hI hAc hK hP hS hi 1 rfl (by decide) lf15 dX1_receive_27 rfl rfl (by decide +kernel) (fun H locs hP hS => ?_)
  have eF : up (fLower σ i (mn x (σ (9 + i) 2)) src) (9 + i) 1 ((σ (9 + i) 1) + (x - (mn x (σ (9 + i) 2)))) = fReceive σ i x src := by first | rfl | (simp only [fReceive, fLower, up_s]; done) | (simp only [fReceive, fLower, up_s]; repeat' split) <;> first | rfl | (exfalso; omega) | omega
  rw [eF] at hP
  exact W.vret hx hb hr (fun t ht hW => ⟨⟨_, rfl, rfl, by rw [ht]; exact hP, va_K.moved hW.alike hK⟩, hS.F ht⟩) hS.2.2 dX1_receive_30
set_option maxHeartbeats 4000000 in
set_option maxRecDepth 100000 in
theorem c_repay (l : Launch) (G : va_G) (ad : Nat → Nat) (cy : Nat → ClassId) (hI : cI ad) (σ : Sg) (i : Nat) (hi : i < 8) (x : Int) : cMv l yX1_repayFromPurse wsX1_repayFromPurse ({ frames := 1, cells := 0, slots := 0, locals := 23 } : Room) G ad cy [.ref (ad (9 + i)), .long (iL x)] σ (fRepay σ i x) := by
  intro sz
  refine Met.ofW (cc := cX1_repayFromPurse) (maxL := 3) (ret := none) (by decide) rfl ?_
  intro p e s m args below meth cd s₁ B hml hv
  obtain ⟨rfl, hsz, hP, hK⟩ := hv
  have hx := B.exec
  have hb := B.bytes
  have hr := B.returns
  have hts := atoms_spec (ws := wsX1_repayFromPurse) B.pre
  have hown : s.vm.findClass RX1 = some m.cls := findClass_of_methodNamed B.named
  have hlocks := B.notSynchronized
  subst hsz
  have hS : va_S (cA ad s.heap.size) s.heap s.heap [] := va_S.rf
  have hA : ∀ q, s.heap.size ≤ q → cA ad s.heap.size q := fun _ h => Or.inr h
  have hAc : ∀ j, j < 33 → cA ad s.heap.size (ad j) := fun j h => Or.inl ⟨j, h, rfl⟩
  have hl := lv_entry ([.ref (ad (9 + i)), .long (iL x)]) (n := 3) (Nat.le_of_ble_eq_true rfl)
  rw [lg_entry_eq]
  generalize (lg_sl ([.ref (ad (9 + i)), .long (iL x)]) ++ List.replicate (3 - (lg_sl ([.ref (ad (9 + i)), .long (iL x)])).length) Slot.unset).toArray = ls at hl ⊢
  have hl : lv_has ls 3 [(0, .ref (ad (9 + i))), (1, .long (iL x))] := hl
  have hF1 : ∀ w ∈ wsX10, w ∈ wsX1_repayFromPurse := by decide +kernel
  have lf15 := hts (.fieldLink RX1 15 "HarvestLender$Farmer" "purse" "J") (by decide +kernel)
  refine lv_aload_n hx hb dX1_repayFromPurse_0 rfl (lv_at hl 0 rfl) ?_
  refine lv_dup hx hb dX1_repayFromPurse_1 rfl ?_
  refine k_gF (i := i) (v := .long (iL (σ (9 + i) 1))) hx hb hts hown hF1 hK hP hi 1 (by decide) lf15 dX1_repayFromPurse_2 rfl rfl ?_
  refine lv_lload_n hx hb dX1_repayFromPurse_5 rfl (lv_at hl 1 rfl) ?_
  refine k_lsub hx hb dX1_repayFromPurse_6 ?_
  refine k_pFl (i := i) (v := (σ (9 + i) 1) - x) hx hb hts hown hF1 hI hAc hK hP hS hi 1 rfl (by decide) lf15 dX1_repayFromPurse_7 rfl rfl (by decide +kernel) (fun H locs hP hS => ?_)
  refine lv_aload_n hx hb dX1_repayFromPurse_10 rfl (lv_at hl 0 rfl) ?_
  refine lv_lload_n hx hb dX1_repayFromPurse_11 rfl (lv_at hl 1 rfl) ?_
  refine k_iconst hx hb dX1_repayFromPurse_12 ?_
  refine k_cv (As := [.long (iL x), .int (iI 0)]) (rest := []) ⟨hx, hb, hml, hown, hts⟩ (c_lower l G ad cy hI (up σ (9 + i) 1 ((σ (9 + i) 1) - x)) i hi x 0 (by omega)) (cwV 2 hts gX1_repayFromPurse_X1_lowerDebt rfl rfl rfl (by decide +kernel) ⟨Nat.le_of_ble_eq_true rfl, Nat.le_of_ble_eq_true rfl⟩) (cRecvF hK hP hi) hAc hA hK hP hS rfl hl.1 rfl (Nat.le_of_ble_eq_true rfl) dX1_repayFromPurse_13 ⟨Nat.zero_le _, Nat.zero_le _⟩ (fun H locs hP hS => ?_)
  have eF : fLower (up σ (9 + i) 1 ((σ (9 + i) 1) - x)) i x 0 = fRepay σ i x := by first | rfl | (simp only [fRepay, up_s]; done) | (simp only [fRepay, up_s]; repeat' split) <;> first | rfl | (exfalso; omega) | omega
  rw [eF] at hP
  exact W.vret hx hb hr (fun t ht hW => ⟨⟨_, rfl, rfl, by rw [ht]; exact hP, va_K.moved hW.alike hK⟩, hS.F ht⟩) hS.2.2 dX1_repayFromPurse_16
set_option maxHeartbeats 4000000 in
set_option maxRecDepth 100000 in
theorem c_move (l : Launch) (G : va_G) (ad : Nat → Nat) (cy : Nat → ClassId) (hI : cI ad) (σ : Sg) (i : Nat) (hi : i < 8) : cMv l yX1_moveRestOfPledgeDebt wsX1_moveRestOfPledgeDebt ({ frames := 1, cells := 0, slots := 0, locals := 22 } : Room) G ad cy [.ref (ad (9 + i))] σ (fMove σ i) := by
  intro sz
  refine Met.ofW (cc := cX1_moveRestOfPledgeDebt) (maxL := 1) (ret := none) (by decide) rfl ?_
  intro p e s m args below meth cd s₁ B hml hv
  obtain ⟨rfl, hsz, hP, hK⟩ := hv
  have hx := B.exec
  have hb := B.bytes
  have hr := B.returns
  have hts := atoms_spec (ws := wsX1_moveRestOfPledgeDebt) B.pre
  have hown : s.vm.findClass RX1 = some m.cls := findClass_of_methodNamed B.named
  have hlocks := B.notSynchronized
  subst hsz
  have hS : va_S (cA ad s.heap.size) s.heap s.heap [] := va_S.rf
  have hA : ∀ q, s.heap.size ≤ q → cA ad s.heap.size q := fun _ h => Or.inr h
  have hAc : ∀ j, j < 33 → cA ad s.heap.size (ad j) := fun j h => Or.inl ⟨j, h, rfl⟩
  have hl := lv_entry ([.ref (ad (9 + i))]) (n := 1) (Nat.le_of_ble_eq_true rfl)
  rw [lg_entry_eq]
  generalize (lg_sl ([.ref (ad (9 + i))]) ++ List.replicate (1 - (lg_sl ([.ref (ad (9 + i))])).length) Slot.unset).toArray = ls at hl ⊢
  have hl : lv_has ls 1 [(0, .ref (ad (9 + i)))] := hl
  have hF1 : ∀ w ∈ wsX10, w ∈ wsX1_moveRestOfPledgeDebt := by decide +kernel
  have lf22 := hts (.fieldLink RX1 22 "HarvestLender$Farmer" "pledgeDebt" "J") (by decide +kernel)
  refine lv_aload_n hx hb dX1_moveRestOfPledgeDebt_0 rfl (lv_at hl 0 rfl) ?_
  refine lv_aload_n hx hb dX1_moveRestOfPledgeDebt_1 rfl (lv_at hl 0 rfl) ?_
  refine k_gF (i := i) (v := .long (iL (σ (9 + i) 3))) hx hb hts hown hF1 hK hP hi 3 (by decide) lf22 dX1_moveRestOfPledgeDebt_2 rfl rfl ?_
  refine k_cv (As := [.long (iL (σ (9 + i) 3))]) (rest := []) ⟨hx, hb, hml, hown, hts⟩ (c_charge l G ad cy hI σ i hi (σ (9 + i) 3)) (cwV 1 hts gX1_moveRestOfPledgeDebt_X1_charge rfl rfl rfl (by decide +kernel) ⟨Nat.le_of_ble_eq_true rfl, Nat.le_of_ble_eq_true rfl⟩) (cRecvF hK hP hi) hAc hA hK hP hS rfl hl.1 rfl (Nat.le_of_ble_eq_true rfl) dX1_moveRestOfPledgeDebt_5 ⟨Nat.zero_le _, Nat.zero_le _⟩ (fun H locs hP hS => ?_)
  refine lv_aload_n hx hb dX1_moveRestOfPledgeDebt_8 rfl (lv_at hl 0 rfl) ?_
  refine k_lconst (v := 0) hx hb dX1_moveRestOfPledgeDebt_9 rfl ?_
  refine k_pFl (i := i) (v := 0) hx hb hts hown hF1 hI hAc hK hP hS hi 3 rfl (by decide) lf22 dX1_moveRestOfPledgeDebt_10 rfl rfl (by decide +kernel) (fun H locs hP hS => ?_)
  have eF : up (fCharge σ i (σ (9 + i) 3)) (9 + i) 3 0 = fMove σ i := by first | rfl | (simp only [fMove, fCharge, up_s]; done) | (simp only [fMove, fCharge, up_s]; repeat' split) <;> first | rfl | (exfalso; omega) | omega
  rw [eF] at hP
  exact W.vret hx hb hr (fun t ht hW => ⟨⟨_, rfl, rfl, by rw [ht]; exact hP, va_K.moved hW.alike hK⟩, hS.F ht⟩) hS.2.2 dX1_moveRestOfPledgeDebt_13
set_option maxHeartbeats 4000000 in
set_option maxRecDepth 100000 in
theorem c_forget (l : Launch) (G : va_G) (ad : Nat → Nat) (cy : Nat → ClassId) (hI : cI ad) (σ : Sg) (i : Nat) (hi : i < 8) : cMv l yX1_forgetSeason wsX1_forgetSeason ({ frames := 0, cells := 0, slots := 0, locals := 0 } : Room) G ad cy [.ref (ad (9 + i))] σ (fForget σ i) := by
  intro sz
  refine Met.ofW (cc := cX1_forgetSeason) (maxL := 1) (ret := none) (by decide) rfl ?_
  intro p e s m args below meth cd s₁ B hml hv
  obtain ⟨rfl, hsz, hP, hK⟩ := hv
  have hx := B.exec
  have hb := B.bytes
  have hr := B.returns
  have hts := atoms_spec (ws := wsX1_forgetSeason) B.pre
  have hown : s.vm.findClass RX1 = some m.cls := findClass_of_methodNamed B.named
  have hlocks := B.notSynchronized
  subst hsz
  have hS : va_S (cA ad s.heap.size) s.heap s.heap [] := va_S.rf
  have hA : ∀ q, s.heap.size ≤ q → cA ad s.heap.size q := fun _ h => Or.inr h
  have hAc : ∀ j, j < 33 → cA ad s.heap.size (ad j) := fun j h => Or.inl ⟨j, h, rfl⟩
  have hl := lv_entry ([.ref (ad (9 + i))]) (n := 1) (Nat.le_of_ble_eq_true rfl)
  rw [lg_entry_eq]
  generalize (lg_sl ([.ref (ad (9 + i))]) ++ List.replicate (1 - (lg_sl ([.ref (ad (9 + i))])).length) Slot.unset).toArray = ls at hl ⊢
  have hl : lv_has ls 1 [(0, .ref (ad (9 + i)))] := hl
  have hF1 : ∀ w ∈ wsX10, w ∈ wsX1_forgetSeason := by decide +kernel
  have lf50 := hts (.fieldLink RX1 50 "HarvestLender$Farmer" "plantedCrop" "I") (by decide +kernel)
  have lf53 := hts (.fieldLink RX1 53 "HarvestLender$Farmer" "hectares" "I") (by decide +kernel)
  have lf56 := hts (.fieldLink RX1 56 "HarvestLender$Farmer" "coverPercent" "I") (by decide +kernel)
  have lf59 := hts (.fieldLink RX1 59 "HarvestLender$Farmer" "yieldPercent" "I") (by decide +kernel)
  have lf62 := hts (.fieldLink RX1 62 "HarvestLender$Farmer" "drawn" "I") (by decide +kernel)
  refine lv_aload_n hx hb dX1_forgetSeason_0 rfl (lv_at hl 0 rfl) ?_
  refine k_iconst hx hb dX1_forgetSeason_1 ?_
  refine k_pFi (i := i) (v := -1) hx hb hts hown hF1 hI hAc hK hP hS hi 12 rfl (by decide) lf50 dX1_forgetSeason_2 rfl rfl (by decide +kernel) (fun H locs hP hS => ?_)
  refine lv_aload_n hx hb dX1_forgetSeason_5 rfl (lv_at hl 0 rfl) ?_
  refine k_iconst hx hb dX1_forgetSeason_6 ?_
  refine k_pFi (i := i) (v := 0) hx hb hts hown hF1 hI hAc hK hP hS hi 13 rfl (by decide) lf53 dX1_forgetSeason_7 rfl rfl (by decide +kernel) (fun H locs hP hS => ?_)
  refine lv_aload_n hx hb dX1_forgetSeason_10 rfl (lv_at hl 0 rfl) ?_
  refine k_iconst hx hb dX1_forgetSeason_11 ?_
  refine k_pFi (i := i) (v := 0) hx hb hts hown hF1 hI hAc hK hP hS hi 14 rfl (by decide) lf56 dX1_forgetSeason_12 rfl rfl (by decide +kernel) (fun H locs hP hS => ?_)
  refine lv_aload_n hx hb dX1_forgetSeason_15 rfl (lv_at hl 0 rfl) ?_
  refine k_bipush hx hb dX1_forgetSeason_16 (by decide) ?_
  refine k_pFi (i := i) (v := 100) hx hb hts hown hF1 hI hAc hK hP hS hi 15 rfl (by decide) lf59 dX1_forgetSeason_18 rfl rfl (by decide +kernel) (fun H locs hP hS => ?_)
  refine lv_aload_n hx hb dX1_forgetSeason_21 rfl (lv_at hl 0 rfl) ?_
  refine k_iconst hx hb dX1_forgetSeason_22 ?_
  refine k_pFi (i := i) (v := 0) hx hb hts hown hF1 hI hAc hK hP hS hi 16 rfl (by decide) lf62 dX1_forgetSeason_23 rfl rfl (by decide +kernel) (fun H locs hP hS => ?_)
  have eF : up (up (up (up (up σ (9 + i) 12 (-1)) (9 + i) 13 0) (9 + i) 14 0) (9 + i) 15 100) (9 + i) 16 0 = fForget σ i := by first | rfl | (simp only [fForget, up_s]; done) | (simp only [fForget, up_s]; repeat' split) <;> first | rfl | (exfalso; omega) | omega
  rw [eF] at hP
  exact W.vret hx hb hr (fun t ht hW => ⟨⟨_, rfl, rfl, by rw [ht]; exact hP, va_K.moved hW.alike hK⟩, hS.F ht⟩) hS.2.2 dX1_forgetSeason_26
set_option maxHeartbeats 4000000 in
set_option maxRecDepth 100000 in
theorem c_take (l : Launch) (G : va_G) (ad : Nat → Nat) (cy : Nat → ClassId) (hI : cI ad) (σ : Sg) (i : Nat) (hi : i < 8) (h8 : 0 ≤ σ (9 + i) 8 ∧ σ (9 + i) 8 ≤ 3) : cMl l yX1_takeInstalment wsX1_takeInstalment ({ frames := 0, cells := 0, slots := 0, locals := 0 } : Room) G ad cy [.ref (ad (9 + i))] σ (fTakeV σ i) (fTake σ i) := by
  intro sz
  refine Met.ofW (cc := cX1_takeInstalment) (maxL := 2) (ret := (some .long)) (by decide) rfl ?_
  intro p e s m args below meth cd s₁ B hml hv
  obtain ⟨rfl, hsz, hP, hK⟩ := hv
  have hx := B.exec
  have hb := B.bytes
  have hr := B.returns
  have hts := atoms_spec (ws := wsX1_takeInstalment) B.pre
  have hown : s.vm.findClass RX1 = some m.cls := findClass_of_methodNamed B.named
  have hlocks := B.notSynchronized
  subst hsz
  have hS : va_S (cA ad s.heap.size) s.heap s.heap [] := va_S.rf
  have hA : ∀ q, s.heap.size ≤ q → cA ad s.heap.size q := fun _ h => Or.inr h
  have hAc : ∀ j, j < 33 → cA ad s.heap.size (ad j) := fun j h => Or.inl ⟨j, h, rfl⟩
  have hl := lv_entry ([.ref (ad (9 + i))]) (n := 2) (Nat.le_of_ble_eq_true rfl)
  rw [lg_entry_eq]
  generalize (lg_sl ([.ref (ad (9 + i))]) ++ List.replicate (2 - (lg_sl ([.ref (ad (9 + i))])).length) Slot.unset).toArray = ls at hl ⊢
  have hl : lv_has ls 2 [(0, .ref (ad (9 + i)))] := hl
  have hF1 : ∀ w ∈ wsX10, w ∈ wsX1_takeInstalment := by decide +kernel
  have lf38 := hts (.fieldLink RX1 38 "HarvestLender$Farmer" "instalmentsLeft" "I") (by decide +kernel)
  have lf35 := hts (.fieldLink RX1 35 "HarvestLender$Farmer" "instalments" "[J") (by decide +kernel)
  refine k_iconst hx hb dX1_takeInstalment_0 ?_
  refine lv_aload_n hx hb dX1_takeInstalment_1 rfl (lv_at hl 0 rfl) ?_
  refine k_gF (i := i) (v := .int (iI (σ (9 + i) 8))) hx hb hts hown hF1 hK hP hi 8 (by decide) lf38 dX1_takeInstalment_2 rfl rfl ?_
  refine k_isub hx hb dX1_takeInstalment_5 ?_
  refine lv_istore_n (lv' := [(1, .int (iI (3 - (σ (9 + i) 8)))), (0, .ref (ad (9 + i)))]) hx hb dX1_takeInstalment_6 rfl hl (by decide) rfl (fun ls hl => ?_)
  refine lv_iload_n hx hb dX1_takeInstalment_7 rfl (lv_at hl 0 rfl) ?_
  refine k_if_lt (tgt := 16) hx hb dX1_takeInstalment_8 (by decide) (by omega) (fun c_1 => ?_) (fun c_1 => ?_)
  · refine k_lconst (v := 0) hx hb dX1_takeInstalment_16 rfl ?_
    have eF : σ = fTake σ i := by first | rfl | (simp only [fTake, fTakeV, up_s]; done) | (simp only [fTake, fTakeV, up_s]; repeat' split) <;> first | rfl | (exfalso; omega) | omega
    rw [eF] at hP
    have eR : 0 = fTakeV σ i := by first | rfl | (simp only [fTake, fTakeV, up_s]; done) | (simp only [fTake, fTakeV, up_s]; repeat' split) <;> first | rfl | (exfalso; omega) | omega
    exact W.lret hx hb hr (fun t ht hW => ⟨⟨_, _, rfl, ⟨by rw [eR], rfl⟩, by rw [ht]; exact hP, va_K.moved hW.alike hK⟩, hS.F ht⟩) hS.2.2 dX1_takeInstalment_17
  · refine lv_iload_n hx hb dX1_takeInstalment_11 rfl (lv_at hl 0 rfl) ?_
    refine k_iconst hx hb dX1_takeInstalment_12 ?_
    refine k_icmp_lt (tgt := 18) hx hb dX1_takeInstalment_13 (by decide) (by omega) (by decide) (fun c_2 => ?_) (fun c_2 => ?_)
    · refine lv_aload_n hx hb dX1_takeInstalment_18 rfl (lv_at hl 1 rfl) ?_
      refine lv_dup hx hb dX1_takeInstalment_19 rfl ?_
      refine k_gF (i := i) (v := .int (iI (σ (9 + i) 8))) hx hb hts hown hF1 hK hP hi 8 (by decide) lf38 dX1_takeInstalment_20 rfl rfl ?_
      refine k_iconst hx hb dX1_takeInstalment_23 ?_
      refine k_isub hx hb dX1_takeInstalment_24 ?_
      refine k_pFi (i := i) (v := (σ (9 + i) 8) - 1) hx hb hts hown hF1 hI hAc hK hP hS hi 8 rfl (by decide) lf38 dX1_takeInstalment_25 rfl rfl (by decide +kernel) (fun H locs hP hS => ?_)
      refine lv_aload_n hx hb dX1_takeInstalment_28 rfl (lv_at hl 1 rfl) ?_
      refine k_gF (i := i) (v := .ref (ad (25 + i))) hx hb hts hown hF1 hK hP hi 7 (by decide) lf35 dX1_takeInstalment_29 rfl rfl ?_
      refine lv_iload_n hx hb dX1_takeInstalment_32 rfl (lv_at hl 0 rfl) ?_
      refine k_tld (i := i) (x := 3 - (σ (9 + i) 8)) hx hb hK hP hi (by omega) (by omega) dX1_takeInstalment_33 ?_
      rw [show (up σ (9 + i) 8 ((σ (9 + i) 8) - 1)) (25 + i) ((3 - (σ (9 + i) 8)).toNat) = σ (25 + i) ((3 - (σ (9 + i) 8)).toNat) by simp [up]]
      have eF : up σ (9 + i) 8 ((σ (9 + i) 8) - 1) = fTake σ i := by first | rfl | (simp only [fTake, fTakeV, up_s]; done) | (simp only [fTake, fTakeV, up_s]; repeat' split) <;> first | rfl | (exfalso; omega) | omega
      rw [eF] at hP
      have eR : σ (25 + i) ((3 - (σ (9 + i) 8)).toNat) = fTakeV σ i := by first | rfl | (simp only [fTake, fTakeV, up_s]; done) | (simp only [fTake, fTakeV, up_s]; repeat' split) <;> first | rfl | (exfalso; omega) | omega
      exact W.lret hx hb hr (fun t ht hW => ⟨⟨_, _, rfl, ⟨by rw [eR], rfl⟩, by rw [ht]; exact hP, va_K.moved hW.alike hK⟩, hS.F ht⟩) hS.2.2 dX1_takeInstalment_34
    · refine k_lconst (v := 0) hx hb dX1_takeInstalment_16 rfl ?_
      have eF : σ = fTake σ i := by first | rfl | (simp only [fTake, fTakeV, up_s]; done) | (simp only [fTake, fTakeV, up_s]; repeat' split) <;> first | rfl | (exfalso; omega) | omega
      rw [eF] at hP
      have eR : 0 = fTakeV σ i := by first | rfl | (simp only [fTake, fTakeV, up_s]; done) | (simp only [fTake, fTakeV, up_s]; repeat' split) <;> first | rfl | (exfalso; omega) | omega
      exact W.lret hx hb hr (fun t ht hW => ⟨⟨_, _, rfl, ⟨by rw [eR], rfl⟩, by rw [ht]; exact hP, va_K.moved hW.alike hK⟩, hS.F ht⟩) hS.2.2 dX1_takeInstalment_17
set_option maxHeartbeats 4000000 in
set_option maxRecDepth 100000 in
theorem c_mayRoll (l : Launch) (G : va_G) (ad : Nat → Nat) (cy : Nat → ClassId) (hI : cI ad) (σ : Sg) (i : Nat) (hi : i < 8) (h12 : nB (σ (9 + i) 12)) (h15 : nB (σ (9 + i) 15)) (h8 : nB (σ (9 + i) 8)) : cMi l yX1_mayRoll wsX1_mayRoll ({ frames := 1, cells := 0, slots := 0, locals := 20 } : Room) G ad cy [.ref (ad (9 + i))] σ (fMayRoll σ i) σ := by
  intro sz
  refine Met.ofW (cc := cX1_mayRoll) (maxL := 1) (ret := (some .boolean)) (by decide) rfl ?_
  intro p e s m args below meth cd s₁ B hml hv
  obtain ⟨rfl, hsz, hP, hK⟩ := hv
  have hx := B.exec
  have hb := B.bytes
  have hr := B.returns
  have hts := atoms_spec (ws := wsX1_mayRoll) B.pre
  have hown : s.vm.findClass RX1 = some m.cls := findClass_of_methodNamed B.named
  have hlocks := B.notSynchronized
  subst hsz
  have hS : va_S (cA ad s.heap.size) s.heap s.heap [] := va_S.rf
  have hA : ∀ q, s.heap.size ≤ q → cA ad s.heap.size q := fun _ h => Or.inr h
  have hAc : ∀ j, j < 33 → cA ad s.heap.size (ad j) := fun j h => Or.inl ⟨j, h, rfl⟩
  have hl := lv_entry ([.ref (ad (9 + i))]) (n := 1) (Nat.le_of_ble_eq_true rfl)
  rw [lg_entry_eq]
  generalize (lg_sl ([.ref (ad (9 + i))]) ++ List.replicate (1 - (lg_sl ([.ref (ad (9 + i))])).length) Slot.unset).toArray = ls at hl ⊢
  have hl : lv_has ls 1 [(0, .ref (ad (9 + i)))] := hl
  have hF1 : ∀ w ∈ wsX10, w ∈ wsX1_mayRoll := by decide +kernel
  have lf59 := hts (.fieldLink RX1 59 "HarvestLender$Farmer" "yieldPercent" "I") (by decide +kernel)
  have lf38 := hts (.fieldLink RX1 38 "HarvestLender$Farmer" "instalmentsLeft" "I") (by decide +kernel)
  refine lv_aload_n hx hb dX1_mayRoll_0 rfl (lv_at hl 0 rfl) ?_
  refine k_ci (As := []) (rest := []) ⟨hx, hb, hml, hown, hts⟩ (c_hasPlanted l G ad cy hI σ i hi (by omega)) (cwV 0 hts gX1_mayRoll_X1_hasPlanted rfl rfl rfl (by decide +kernel) ⟨Nat.le_of_ble_eq_true rfl, Nat.le_of_ble_eq_true rfl⟩) (cRecvF hK hP hi) hAc hA hK hP hS rfl hl.1 rfl (Nat.le_of_ble_eq_true rfl) dX1_mayRoll_1 ⟨Nat.zero_le _, Nat.zero_le _⟩ (fun H locs hP hS => ?_)
  refine k_if_eq (tgt := 27) hx hb dX1_mayRoll_4 (by decide) (fPl_nB σ i) (fun c_1 => ?_) (fun c_1 => ?_)
  · refine k_iconst hx hb dX1_mayRoll_27 ?_
    have eR : 0 = fMayRoll σ i := by (have q := fPl_0 σ i; unfold fMayRoll; split <;> omega)
    exact W.zret hx hb hr (by decide) (fun t ht hW => ⟨⟨_, _, rfl, ⟨by rw [eR], rfl⟩, by rw [ht]; exact hP, va_K.moved hW.alike hK⟩, hS.F ht⟩) hS.2.2 dX1_mayRoll_28
  · refine lv_aload_n hx hb dX1_mayRoll_7 rfl (lv_at hl 0 rfl) ?_
    refine k_gF (i := i) (v := .int (iI (σ (9 + i) 15))) hx hb hts hown hF1 hK hP hi 15 (by decide) lf59 dX1_mayRoll_8 rfl rfl ?_
    refine k_bipush hx hb dX1_mayRoll_11 (by decide) ?_
    refine k_icmp_ge (tgt := 27) hx hb dX1_mayRoll_13 (by decide) (by omega) (by decide) (fun c_2 => ?_) (fun c_2 => ?_)
    · refine k_iconst hx hb dX1_mayRoll_27 ?_
      have eR : 0 = fMayRoll σ i := by (have q := fPl_0 σ i; unfold fMayRoll; split <;> omega)
      exact W.zret hx hb hr (by decide) (fun t ht hW => ⟨⟨_, _, rfl, ⟨by rw [eR], rfl⟩, by rw [ht]; exact hP, va_K.moved hW.alike hK⟩, hS.F ht⟩) hS.2.2 dX1_mayRoll_28
    · refine lv_aload_n hx hb dX1_mayRoll_16 rfl (lv_at hl 0 rfl) ?_
      refine k_gF (i := i) (v := .int (iI (σ (9 + i) 8))) hx hb hts hown hF1 hK hP hi 8 (by decide) lf38 dX1_mayRoll_17 rfl rfl ?_
      refine k_if_ne (tgt := 27) hx hb dX1_mayRoll_20 (by decide) (by omega) (fun c_3 => ?_) (fun c_3 => ?_)
      · refine k_iconst hx hb dX1_mayRoll_27 ?_
        have eR : 0 = fMayRoll σ i := by (have q := fPl_0 σ i; unfold fMayRoll; split <;> omega)
        exact W.zret hx hb hr (by decide) (fun t ht hW => ⟨⟨_, _, rfl, ⟨by rw [eR], rfl⟩, by rw [ht]; exact hP, va_K.moved hW.alike hK⟩, hS.F ht⟩) hS.2.2 dX1_mayRoll_28
      · refine k_iconst hx hb dX1_mayRoll_23 ?_
        refine lv_goto (tgt := 28) hx hb dX1_mayRoll_24 (by decide) ?_
        have eR : 1 = fMayRoll σ i := by (have q := fPl_0 σ i; unfold fMayRoll; split <;> omega)
        exact W.zret hx hb hr (by decide) (fun t ht hW => ⟨⟨_, _, rfl, ⟨by rw [eR], rfl⟩, by rw [ht]; exact hP, va_K.moved hW.alike hK⟩, hS.F ht⟩) hS.2.2 dX1_mayRoll_28
