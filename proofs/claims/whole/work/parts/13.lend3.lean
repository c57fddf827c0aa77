set_option maxHeartbeats 4000000 in
set_option maxRecDepth 100000 in
theorem c_coll (l : Launch) (G : va_G) (ad : Nat → Nat) (cy : Nat → ClassId) (hI : cI ad) (σ : Sg) (hc : 0 ≤ σ 0 2 ∧ σ 0 2 ≤ 8) (j : Nat) (hj : j < 8) (hok : cOk σ) : cMv l yX2_collectFromGroup wsX2_collectFromGroup ({ frames := 2, cells := 0, slots := 0, locals := 46 } : Room) G ad cy [.ref (ad 0), .ref (ad (9 + j))] σ (itr (fColl j) σ (σ 0 2).toNat) := by
  intro sz
  refine Met.ofW (cc := cX2_collectFromGroup) (maxL := 3) (ret := none) (by decide) rfl ?_
  intro p e s m args below meth cd s₁ B hml hv
  obtain ⟨rfl, hsz, hP, hK⟩ := hv
  have hx := B.exec
  have hb := B.bytes
  have hr := B.returns
  have hts := atoms_spec (ws := wsX2_collectFromGroup) B.pre
  have hown : s.vm.findClass RX2 = some m.cls := findClass_of_methodNamed B.named
  have hlocks := B.notSynchronized
  subst hsz
  have hS : va_S (cA ad s.heap.size) s.heap s.heap [] := va_S.rf
  have hA : ∀ q, s.heap.size ≤ q → cA ad s.heap.size q := fun _ h => Or.inr h
  have hAc : ∀ j, j < 33 → cA ad s.heap.size (ad j) := fun j h => Or.inl ⟨j, h, rfl⟩
  have hl := lv_entry ([.ref (ad 0), .ref (ad (9 + j))]) (n := 3) (Nat.le_of_ble_eq_true rfl)
  rw [lg_entry_eq]
  generalize (lg_sl ([.ref (ad 0), .ref (ad (9 + j))]) ++ List.replicate (3 - (lg_sl ([.ref (ad 0), .ref (ad (9 + j))])).length) Slot.unset).toArray = ls at hl ⊢
  have hl : lv_has ls 3 [(0, .ref (ad 0)), (1, .ref (ad (9 + j)))] := hl
  have hF1 : ∀ w ∈ wsX10, w ∈ wsX2_collectFromGroup := by decide +kernel
  have hF2 : ∀ w ∈ wsX20, w ∈ wsX2_collectFromGroup := by decide +kernel
  have lf21 := hts (.fieldLink RX2 21 "HarvestLender" "count" "I") (by decide +kernel)
  have lf17 := hts (.fieldLink RX2 17 "HarvestLender" "rows" "[LHarvestLender$Farmer;") (by decide +kernel)
  have lf65 := hts (.fieldLink RX2 65 "HarvestLender$Farmer" "group" "I") (by decide +kernel)
  have loop : ∀ (d k : Nat), k ≤ (σ 0 2).toNat → (σ 0 2).toNat < k + d → ∀ (H : Heap) (locs : List Loc) (ls : Array Slot), va_P G vwCl (cW ad cy (itr (fColl j) σ k)) H → va_S (cA ad s.heap.size) s.heap H locs → lv_has ls 3 [(0, .ref (ad 0)), (1, .ref (ad (9 + j))), (2, .int (iI (k : Int)))] → W p l e (headSpec wsX2_collectFromGroup ({ frames := 2, cells := 0, slots := 0, locals := 46 } : Room)).room s m ([.ref (ad 0), .ref (ad (9 + j))] : List Value).toArray below meth cd H locs 0 0 (MQ below (va_Qv (fun u : Sg => u = itr (fColl j) σ (σ 0 2).toNat) (cB G ad cy) (cA ad s.heap.size)) ([.ref (ad 0), .ref (ad (9 + j))] : List Value).toArray s 0 0 (cA ad s.heap.size)) (F0 m 2 ls []) := by
    intro d
    induction d with
    | zero => intro k h1 h2; exact absurd h2 (by omega)
    | succ d ih =>
      intro k hk hd  H locs ls hP hS hl
      refine lv_iload_n hx hb dX2_collectFromGroup_2 rfl (lv_at hl 2 rfl) ?_
      refine lv_aload_n hx hb dX2_collectFromGroup_3 rfl (lv_at hl 0 rfl) ?_
      refine k_gH (v := .int (iI (σ 0 2))) hx hb hts hown hF2 hK hP 2 (by decide) lf21 dX2_collectFromGroup_4 rfl (congrArg (fun z => some (Value.int (iI z))) (by simp [itrC_lt] : (itr (fColl j) σ k) 0 2 = σ 0 2)) ?_
      refine k_icmp_ge (tgt := 52) hx hb dX2_collectFromGroup_7 (by decide) (by omega) (by omega) (fun c_1 => ?_) (fun c_1 => ?_)
      · have hP : va_P G vwCl (cW ad cy (itr (fColl j) σ (σ 0 2).toNat)) H := by (have e : k = (σ 0 2).toNat := by omega); (rw [e] at hP); exact hP
        exact W.vret hx hb hr (fun t ht hW => ⟨⟨_, rfl, rfl, by rw [ht]; exact hP, va_K.moved hW.alike hK⟩, hS.F ht⟩) hS.2.2 dX2_collectFromGroup_52
      · have hk8 : k < 8 := by omega
        have hk1 : cOk (itr (fColl j) σ k) := itr_ok (f := fColl j) (fun σ i hi hs => ok_coll hi hj hs) hok k (by omega)
        obtain ⟨a1, a2, a3, a4, a5, a6, a7⟩ := hk1 k hk8
        obtain ⟨b1, b2, b3, b4, b5, b6, b7⟩ := hk1 j hj
        refine lv_aload_n hx hb dX2_collectFromGroup_10 rfl (lv_at hl 0 rfl) ?_
        refine k_gH (v := .ref (ad 2)) hx hb hts hown hF2 hK hP 1 (by decide) lf17 dX2_collectFromGroup_11 rfl rfl ?_
        refine lv_iload_n hx hb dX2_collectFromGroup_14 rfl (lv_at hl 2 rfl) ?_
        refine k_fldN (x := k) hx hb hK hP (by omega) dX2_collectFromGroup_15 ?_
        refine lv_aload_n hx hb dX2_collectFromGroup_16 rfl (lv_at hl 1 rfl) ?_
        refine lv_acmp_eq (tgt := 46) (rx := some (ad (9 + k))) (ry := some (ad (9 + j))) hx hb dX2_collectFromGroup_17 (by decide) (fun c9 => ?_) (fun c9 => ?_)
        · have c_2 : k = j := by have := hI (9 + k) (9 + j) (by omega) (by omega) (Option.some.inj c9); omega
          refine lv_iinc (v := iI ((k : Int) + 1)) (lv' := [(2, .int (iI ((k : Int) + 1))), (0, .ref (ad 0)), (1, .ref (ad (9 + j)))]) hx hb dX2_collectFromGroup_46 hl (k := 2) rfl (iI_add _ _) (by decide) rfl (fun ls hl => ?_)
          refine lv_goto (tgt := 2) hx hb dX2_collectFromGroup_49 (by decide) ?_
          have q3 : itr (fColl j) σ k = itr (fColl j) σ (k + 1) := by first | rfl | ((rw [itr, fColl]; repeat' split) <;> first | rfl | (exfalso; omega))
          rw [q3] at hP
          exact ih (k + 1) (by omega) (by omega)  _ _ _ hP hS (lv_sub hl [1, 2, 0] rfl)
        · have c_2 : ¬ k = j := fun h => c9 (by rw [h])
          refine lv_aload_n hx hb dX2_collectFromGroup_20 rfl (lv_at hl 0 rfl) ?_
          refine k_gH (v := .ref (ad 2)) hx hb hts hown hF2 hK hP 1 (by decide) lf17 dX2_collectFromGroup_21 rfl rfl ?_
          refine lv_iload_n hx hb dX2_collectFromGroup_24 rfl (lv_at hl 2 rfl) ?_
          refine k_fldN (x := k) hx hb hK hP (by omega) dX2_collectFromGroup_25 ?_
          refine k_gF (i := k) (v := .int (iI ((itr (fColl j) σ k) (9 + k) 0))) hx hb hts hown hF1 hK hP hk8 0 (by decide) lf65 dX2_collectFromGroup_26 rfl rfl ?_
          refine lv_aload_n hx hb dX2_collectFromGroup_29 rfl (lv_at hl 1 rfl) ?_
          refine k_gF (i := j) (v := .int (iI ((itr (fColl j) σ k) (9 + j) 0))) hx hb hts hown hF1 hK hP hj 0 (by decide) lf65 dX2_collectFromGroup_30 rfl rfl ?_
          refine k_icmp_ne (tgt := 46) hx hb dX2_collectFromGroup_33 (by decide) (by omega) (by omega) (fun c_4 => ?_) (fun c_4 => ?_)
          · refine lv_iinc (v := iI ((k : Int) + 1)) (lv' := [(2, .int (iI ((k : Int) + 1))), (0, .ref (ad 0)), (1, .ref (ad (9 + j)))]) hx hb dX2_collectFromGroup_46 hl (k := 2) rfl (iI_add _ _) (by decide) rfl (fun ls hl => ?_)
            refine lv_goto (tgt := 2) hx hb dX2_collectFromGroup_49 (by decide) ?_
            have q5 : itr (fColl j) σ k = itr (fColl j) σ (k + 1) := by first | rfl | ((rw [itr, fColl]; repeat' split) <;> first | rfl | (exfalso; omega))
            rw [q5] at hP
            exact ih (k + 1) (by omega) (by omega)  _ _ _ hP hS (lv_sub hl [1, 2, 0] rfl)
          · refine lv_aload_n hx hb dX2_collectFromGroup_36 rfl (lv_at hl 0 rfl) ?_
            refine k_gH (v := .ref (ad 2)) hx hb hts hown hF2 hK hP 1 (by decide) lf17 dX2_collectFromGroup_37 rfl rfl ?_
            refine lv_iload_n hx hb dX2_collectFromGroup_40 rfl (lv_at hl 2 rfl) ?_
            refine k_fldN (x := k) hx hb hK hP (by omega) dX2_collectFromGroup_41 ?_
            refine lv_aload_n hx hb dX2_collectFromGroup_42 rfl (lv_at hl 1 rfl) ?_
            refine k_cv (As := [.ref (ad (9 + j))]) (rest := []) ⟨hx, hb, hml, hown, hts⟩ (c_payFor l G ad cy hI (itr (fColl j) σ k) k hk8 j hj (by omega) (by omega) (by omega)) (cwV 1 hts gX2_collectFromGroup_X1_payFor rfl rfl rfl (by decide +kernel) ⟨Nat.le_of_ble_eq_true rfl, Nat.le_of_ble_eq_true rfl⟩) (cRecvF hK hP hk8) hAc hA hK hP hS rfl hl.1 rfl (Nat.le_of_ble_eq_true rfl) dX2_collectFromGroup_43 ⟨Nat.zero_le _, Nat.zero_le _⟩ (fun H locs hP hS => ?_)
            refine lv_iinc (v := iI ((k : Int) + 1)) (lv' := [(2, .int (iI ((k : Int) + 1))), (0, .ref (ad 0)), (1, .ref (ad (9 + j)))]) hx hb dX2_collectFromGroup_46 hl (k := 2) rfl (iI_add _ _) (by decide) rfl (fun ls hl => ?_)
            refine lv_goto (tgt := 2) hx hb dX2_collectFromGroup_49 (by decide) ?_
            have q6 : fPay (itr (fColl j) σ k) k j = itr (fColl j) σ (k + 1) := by first | rfl | ((rw [itr, fColl]; repeat' split) <;> first | rfl | (exfalso; omega))
            rw [q6] at hP
            exact ih (k + 1) (by omega) (by omega)  _ _ _ hP hS (lv_sub hl [1, 2, 0] rfl)
  refine k_iconst hx hb dX2_collectFromGroup_0 ?_
  refine lv_istore_n (lv' := [(2, .int (iI 0)), (0, .ref (ad 0)), (1, .ref (ad (9 + j)))]) hx hb dX2_collectFromGroup_1 rfl hl (by decide) rfl (fun ls hl => ?_)
  have q7 : σ = itr (fColl j) σ 0 := by first | rfl | ((rw [itr, fColl]; repeat' split) <;> first | rfl | (exfalso; omega))
  rw [q7] at hP
  exact loop ((σ 0 2).toNat + 1) 0 (Nat.zero_le _) (by omega)  _ _ _ hP hS (lv_sub hl [1, 2, 0] rfl)
set_option maxHeartbeats 4000000 in
set_option maxRecDepth 100000 in
theorem c_rest (l : Launch) (G : va_G) (ad : Nat → Nat) (cy : Nat → ClassId) (hI : cI ad) (σ : Sg) (hc : 0 ≤ σ 0 2 ∧ σ 0 2 ≤ 8) (i : Nat) (hi : i < 8) (hok : cOk σ) : cMv l yX2_settleRest wsX2_settleRest ({ frames := 3, cells := 0, slots := 0, locals := 68 } : Room) G ad cy [.ref (ad 0), .ref (ad (9 + i))] σ (fRest σ i) := by
  intro sz
  refine Met.ofW (cc := cX2_settleRest) (maxL := 2) (ret := none) (by decide) rfl ?_
  intro p e s m args below meth cd s₁ B hml hv
  obtain ⟨rfl, hsz, hP, hK⟩ := hv
  have hx := B.exec
  have hb := B.bytes
  have hr := B.returns
  have hts := atoms_spec (ws := wsX2_settleRest) B.pre
  have hown : s.vm.findClass RX2 = some m.cls := findClass_of_methodNamed B.named
  have hlocks := B.notSynchronized
  subst hsz
  have hS : va_S (cA ad s.heap.size) s.heap s.heap [] := va_S.rf
  have hA : ∀ q, s.heap.size ≤ q → cA ad s.heap.size q := fun _ h => Or.inr h
  have hAc : ∀ j, j < 33 → cA ad s.heap.size (ad j) := fun j h => Or.inl ⟨j, h, rfl⟩
  have hl := lv_entry ([.ref (ad 0), .ref (ad (9 + i))]) (n := 2) (Nat.le_of_ble_eq_true rfl)
  rw [lg_entry_eq]
  generalize (lg_sl ([.ref (ad 0), .ref (ad (9 + i))]) ++ List.replicate (2 - (lg_sl ([.ref (ad 0), .ref (ad (9 + i))])).length) Slot.unset).toArray = ls at hl ⊢
  have hl : lv_has ls 2 [(0, .ref (ad 0)), (1, .ref (ad (9 + i)))] := hl
  have hF1 : ∀ w ∈ wsX10, w ∈ wsX2_settleRest := by decide +kernel
  have lf128 := hts (.fieldLink RX2 128 "HarvestLender$Farmer" "debt" "J") (by decide +kernel)
  obtain ⟨a1, a2, a3, a4, a5, a6, a7⟩ := hok i hi
  refine lv_aload_n hx hb dX2_settleRest_0 rfl (lv_at hl 1 rfl) ?_
  refine k_gF (i := i) (v := .long (iL (σ (9 + i) 2))) hx hb hts hown hF1 hK hP hi 2 (by decide) lf128 dX2_settleRest_1 rfl rfl ?_
  refine k_lconst (v := 0) hx hb dX2_settleRest_4 rfl ?_
  refine k_lcmp_ne (tgt := 10) hx hb dX2_settleRest_5 dX2_settleRest_6 (by decide) (by omega) (by decide) (fun c_1 => ?_) (fun c_1 => ?_)
  · refine lv_aload_n hx hb dX2_settleRest_10 rfl (lv_at hl 1 rfl) ?_
    refine k_ci (As := []) (rest := []) ⟨hx, hb, hml, hown, hts⟩ (c_mayRoll l G ad cy hI σ i hi (by omega) (by omega) (by omega)) (cwV 0 hts gX2_settleRest_X1_mayRoll rfl rfl rfl (by decide +kernel) ⟨Nat.le_of_ble_eq_true rfl, Nat.le_of_ble_eq_true rfl⟩) (cRecvF hK hP hi) hAc hA hK hP hS rfl hl.1 rfl (Nat.le_of_ble_eq_true rfl) dX2_settleRest_11 ⟨Nat.zero_le _, Nat.zero_le _⟩ (fun H locs hP hS => ?_)
    refine k_if_eq (tgt := 24) hx hb dX2_settleRest_14 (by decide) (fMR_nB σ i) (fun c_2 => ?_) (fun c_2 => ?_)
    · refine lv_aload_n hx hb dX2_settleRest_24 rfl (lv_at hl 0 rfl) ?_
      refine lv_aload_n hx hb dX2_settleRest_25 rfl (lv_at hl 1 rfl) ?_
      refine k_cv (As := [.ref (ad (9 + i))]) (rest := []) ⟨hx, hb, hml, hown, hts⟩ (c_coll l G ad cy hI σ hc i hi hok) (cwV 1 hts gX2_settleRest_X2_collectFromGroup rfl rfl rfl (by decide +kernel) ⟨Nat.le_of_ble_eq_true rfl, Nat.le_of_ble_eq_true rfl⟩) (cRecvH hK hP) hAc hA hK hP hS rfl hl.1 rfl (Nat.le_of_ble_eq_true rfl) dX2_settleRest_26 ⟨Nat.zero_le _, Nat.zero_le _⟩ (fun H locs hP hS => ?_)
      have eF : itr (fColl i) σ (σ 0 2).toNat = fRest σ i := by first | (rw [fRest, if_pos c_1]) | (rw [fRest, if_neg c_1, if_pos c_2]) | (rw [fRest, if_neg c_1, if_neg c_2])
      rw [eF] at hP
      exact W.vret hx hb hr (fun t ht hW => ⟨⟨_, rfl, rfl, by rw [ht]; exact hP, va_K.moved hW.alike hK⟩, hS.F ht⟩) hS.2.2 dX2_settleRest_29
    · refine lv_aload_n hx hb dX2_settleRest_17 rfl (lv_at hl 1 rfl) ?_
      refine k_cv (As := []) (rest := []) ⟨hx, hb, hml, hown, hts⟩ (c_roll l G ad cy hI σ i hi (by omega)) (cwV 0 hts gX2_settleRest_X1_rollDebt rfl rfl rfl (by decide +kernel) ⟨Nat.le_of_ble_eq_true rfl, Nat.le_of_ble_eq_true rfl⟩) (cRecvF hK hP hi) hAc hA hK hP hS rfl hl.1 rfl (Nat.le_of_ble_eq_true rfl) dX2_settleRest_18 ⟨Nat.zero_le _, Nat.zero_le _⟩ (fun H locs hP hS => ?_)
      refine lv_goto (tgt := 29) hx hb dX2_settleRest_21 (by decide) ?_
      have eF : fRoll σ i = fRest σ i := by first | (rw [fRest, if_pos c_1]) | (rw [fRest, if_neg c_1, if_pos c_2]) | (rw [fRest, if_neg c_1, if_neg c_2])
      rw [eF] at hP
      exact W.vret hx hb hr (fun t ht hW => ⟨⟨_, rfl, rfl, by rw [ht]; exact hP, va_K.moved hW.alike hK⟩, hS.F ht⟩) hS.2.2 dX2_settleRest_29
  · have eF : σ = fRest σ i := by first | (rw [fRest, if_pos c_1]) | (rw [fRest, if_neg c_1, if_pos c_2]) | (rw [fRest, if_neg c_1, if_neg c_2])
    rw [eF] at hP
    exact W.vret hx hb hr (fun t ht hW => ⟨⟨_, rfl, rfl, by rw [ht]; exact hP, va_K.moved hW.alike hK⟩, hS.F ht⟩) hS.2.2 dX2_settleRest_9
set_option maxHeartbeats 4000000 in
set_option maxRecDepth 100000 in
theorem h_harvAll (l : Launch) (hfl : l.stackTraces = false) (G : va_G) (ad : Nat → Nat) (cy : Nat → ClassId) (hI : cI ad) (σ : Sg) (hH : cHv σ) : xMv l yX2_harvestAll wsX2_harvestAll ({ frames := 7, cells := 8, slots := 48, locals := 105 } : Room) G ad cy [.ref (ad 0)] σ 0 (itr fHarv σ (σ 0 2).toNat) 8 := by
  intro sz
  refine vx_ofW (cc := cX2_harvestAll) (maxL := 2) (ret := none) (by decide) rfl ?_
  intro p e s m args below meth cd s₁ B hml hno hv
  obtain ⟨rfl, hsz, hP, hK, hX⟩ := hv
  have hx := B.exec
  have hb := B.bytes
  have hr := B.returns
  have hts := atoms_spec (ws := wsX2_harvestAll) B.pre
  have hown : s.vm.findClass RX2 = some m.cls := findClass_of_methodNamed B.named
  have hlocks := B.notSynchronized
  subst hsz
  have hS : va_S (cA ad s.heap.size) s.heap s.heap [] := va_S.rf
  have hA : ∀ q, s.heap.size ≤ q → cA ad s.heap.size q := fun _ h => Or.inr h
  have hAc : ∀ j, j < 33 → cA ad s.heap.size (ad j) := fun j h => Or.inl ⟨j, h, rfl⟩
  have hl := lv_entry ([.ref (ad 0)]) (n := 2) (Nat.le_of_ble_eq_true rfl)
  rw [lg_entry_eq]
  generalize (lg_sl ([.ref (ad 0)]) ++ List.replicate (2 - (lg_sl ([.ref (ad 0)])).length) Slot.unset).toArray = ls at hl ⊢
  have hl : lv_has ls 2 [(0, .ref (ad 0))] := hl
  have hF1 : ∀ w ∈ wsX10, w ∈ wsX2_harvestAll := by decide +kernel
  have hF2 : ∀ w ∈ wsX20, w ∈ wsX2_harvestAll := by decide +kernel
  have lf21 := hts (.fieldLink RX2 21 "HarvestLender" "count" "I") (by decide +kernel)
  have lf17 := hts (.fieldLink RX2 17 "HarvestLender" "rows" "[LHarvestLender$Farmer;") (by decide +kernel)
  have lf82 := hts (.fieldLink RX2 82 "HarvestLender$Farmer" "plantedCrop" "I") (by decide +kernel)
  have hcnt := hH.1
  have loop : ∀ (d k : Nat), k ≤ (σ 0 2).toNat → (σ 0 2).toNat < k + d → ∀ (H : Heap) (locs : List Loc) (ls : Array Slot), va_P G vwCl (cW ad cy (itr fHarv σ k)) H → va_S (cA ad s.heap.size) s.heap H locs → lv_has ls 2 [(0, .ref (ad 0)), (1, .int (iI (k : Int)))] → W p l e (headSpec wsX2_harvestAll ({ frames := 7, cells := 8, slots := 48, locals := 105 } : Room)).room s m ([.ref (ad 0)] : List Value).toArray below meth cd H locs k (6 * k) (vx_MQ below (xQv G ad cy 0 (itr fHarv σ (σ 0 2).toNat) s.heap.size) (xX G ad cy 0 σ s.heap.size) ([.ref (ad 0)] : List Value).toArray s 8 (6 * 8) (cA ad s.heap.size)) (F0 m 2 ls []) := by
    intro d
    induction d with
    | zero => intro k h1 h2; exact absurd h2 (by omega)
    | succ d ih =>
      intro k hk hd  H locs ls hP hS hl
      refine lv_iload_n hx hb dX2_harvestAll_2 rfl (lv_at hl 1 rfl) ?_
      refine lv_aload_n hx hb dX2_harvestAll_3 rfl (lv_at hl 0 rfl) ?_
      refine k_gH (v := .int (iI (σ 0 2))) hx hb hts hown hF2 hK hP 2 (by decide) lf21 dX2_harvestAll_4 rfl (congrArg (fun z => some (Value.int (iI z))) (by simp [itr_lt locHarv σ k (r := 0) (by omega)] : (itr fHarv σ k) 0 2 = σ 0 2)) ?_
      refine k_icmp_ge (tgt := 50) hx hb dX2_harvestAll_7 (by decide) (by omega) (by omega) (fun c_1 => ?_) (fun c_1 => ?_)
      · have hP : va_P G vwCl (cW ad cy (itr fHarv σ (σ 0 2).toNat)) H := by (have e : k = (σ 0 2).toNat := by omega); (rw [e] at hP); exact hP
        have e0 : (0 : Nat) = 0 := rfl
        exact x_vret hx hb hr hlocks hK hP hS e0 dX2_harvestAll_50 (by omega) (by omega)
      · have hk8 : k < 8 := by omega
        obtain ⟨q12, q13, q14, q15, q2⟩ := hH.2.2 k hk8
        refine lv_aload_n hx hb dX2_harvestAll_10 rfl (lv_at hl 0 rfl) ?_
        refine k_gH (v := .ref (ad 2)) hx hb hts hown hF2 hK hP 1 (by decide) lf17 dX2_harvestAll_11 rfl rfl ?_
        refine lv_iload_n hx hb dX2_harvestAll_14 rfl (lv_at hl 1 rfl) ?_
        refine k_fldN (x := k) hx hb hK hP (by omega) dX2_harvestAll_15 ?_
        refine k_ci (As := []) (rest := []) ⟨hx, hb, hml, hown, hts⟩ (c_hasPlanted l G ad cy hI (itr fHarv σ k) k hk8 (by rw [itr_at9 locHarv σ hk8]; omega)) (cwV 0 hts gX2_harvestAll_X1_hasPlanted rfl rfl rfl (by decide +kernel) ⟨Nat.le_of_ble_eq_true rfl, Nat.le_of_ble_eq_true rfl⟩) (cRecvF hK hP hk8) hAc hA hK hP hS rfl hl.1 rfl (Nat.le_of_ble_eq_true rfl) dX2_harvestAll_16 ⟨show k ≤ 8 by omega, show 6 * k ≤ 48 by omega⟩ (fun H locs hP hS => ?_)
        refine k_if_eq (tgt := 44) hx hb dX2_harvestAll_19 (by decide) (fPl_nB _ _) (fun c_2 => ?_) (fun c_2 => ?_)
        · rw [fPl_0] at c_2
          rw [itr_at9 locHarv σ hk8] at c_2
          refine lv_iinc (v := iI ((k : Int) + 1)) (lv' := [(1, .int (iI ((k : Int) + 1))), (0, .ref (ad 0))]) hx hb dX2_harvestAll_44 hl (k := 1) rfl (iI_add _ _) (by decide) rfl (fun ls hl => ?_)
          refine lv_goto (tgt := 2) hx hb dX2_harvestAll_47 (by decide) ?_
          have q3 : itr fHarv σ k = itr fHarv σ (k + 1) := by first | rfl | (rw [itr, fHarv, itr_at9 locHarv σ hk8, if_pos (by assumption)]) | (rw [itr, fHarv, itr_at9 locHarv σ hk8, if_neg (by assumption)])
          rw [q3] at hP
          refine W.widen (k := (k + 1)) (n := (6 * (k + 1))) (by omega) (by omega) ?_
          exact ih (k + 1) (by omega) (by omega)  _ _ _ hP hS (lv_sub hl [1, 0] rfl)
        · rw [fPl_0] at c_2
          rw [itr_at9 locHarv σ hk8] at c_2
          refine lv_aload_n hx hb dX2_harvestAll_22 rfl (lv_at hl 0 rfl) ?_
          refine k_gH (v := .ref (ad 2)) hx hb hts hown hF2 hK hP 1 (by decide) lf17 dX2_harvestAll_23 rfl rfl ?_
          refine lv_iload_n hx hb dX2_harvestAll_26 rfl (lv_at hl 1 rfl) ?_
          refine k_fldN (x := k) hx hb hK hP (by omega) dX2_harvestAll_27 ?_
          refine lv_aload_n hx hb dX2_harvestAll_28 rfl (lv_at hl 0 rfl) ?_
          refine lv_aload_n hx hb dX2_harvestAll_29 rfl (lv_at hl 0 rfl) ?_
          refine k_gH (v := .ref (ad 2)) hx hb hts hown hF2 hK hP 1 (by decide) lf17 dX2_harvestAll_30 rfl rfl ?_
          refine lv_iload_n hx hb dX2_harvestAll_33 rfl (lv_at hl 1 rfl) ?_
          refine k_fldN (x := k) hx hb hK hP (by omega) dX2_harvestAll_34 ?_
          refine k_gF (i := k) (v := .int (iI (σ (9 + k) 12))) hx hb hts hown hF1 hK hP hk8 12 (by decide) lf82 dX2_harvestAll_35 rfl (congrArg (fun z => some (Value.int (iI z))) (by simp [itr_at9 locHarv σ hk8] : (itr fHarv σ k) (9 + k) 12 = σ (9 + k) 12)) ?_
          refine k_xq (As := [.int (iI (σ (9 + k) 12))]) (rest := [.ref (ad (9 + k))]) ⟨hx, hb, hml, hown, hts⟩ (x_cropAt l hfl G ad cy hI (itr fHarv σ k) (σ (9 + k) 12) (by omega)) (cwV 1 hts gX2_harvestAll_X2_cropAt rfl rfl rfl (by decide +kernel) ⟨Nat.le_of_ble_eq_true rfl, Nat.le_of_ble_eq_true rfl⟩) (cRecvH hK hP) hAc hA hK hX hP hS rfl hl.1 rfl (Nat.le_of_ble_eq_true rfl) dX2_harvestAll_38 ⟨show k + 1 ≤ 8 by omega, show 6 * k + 6 * 1 ≤ 48 by omega⟩ (fun E ce q9 H locs hN _ _ _ _ _ => absurd (cCrop_in (by omega) (by omega)) (xN_ne hN)) (fun h_5 H locs hP hS => ?_)
          refine k_cv (As := [.ref (ad (3 + ((σ (9 + k) 12).toNat)))]) (rest := []) ⟨hx, hb, hml, hown, hts⟩ (c_harvest l G ad cy hI (itr fHarv σ k) k hk8 ((σ (9 + k) 12).toNat) (by omega) (by rw [itr_at9 locHarv σ hk8]; omega) (by rw [itr_lt locHarv σ k (by omega)]; exact (hH.2.1 (σ (9 + k) 12).toNat (by omega)).2.1) (by rw [itr_at9 locHarv σ hk8]; omega) (by rw [itr_lt locHarv σ k (by omega)]; exact (hH.2.1 (σ (9 + k) 12).toNat (by omega)).1) (by rw [itr_at9 locHarv σ hk8]; omega) (by rw [itr_at9 locHarv σ hk8]; omega)) (cwV 1 hts gX2_harvestAll_X1_harvest rfl rfl rfl (by decide +kernel) ⟨Nat.le_of_ble_eq_true rfl, Nat.le_of_ble_eq_true rfl⟩) (cRecvF hK hP hk8) hAc hA hK hP hS rfl hl.1 rfl (Nat.le_of_ble_eq_true rfl) dX2_harvestAll_41 ⟨show k + 1 ≤ 8 by omega, show 6 * k + 6 * 1 ≤ 48 by omega⟩ (fun H locs hP hS => ?_)
          refine lv_iinc (v := iI ((k : Int) + 1)) (lv' := [(1, .int (iI ((k : Int) + 1))), (0, .ref (ad 0))]) hx hb dX2_harvestAll_44 hl (k := 1) rfl (iI_add _ _) (by decide) rfl (fun ls hl => ?_)
          refine lv_goto (tgt := 2) hx hb dX2_harvestAll_47 (by decide) ?_
          have q6 : fHarvest (itr fHarv σ k) k ((σ (9 + k) 12).toNat) = itr fHarv σ (k + 1) := by first | rfl | (rw [itr, fHarv, itr_at9 locHarv σ hk8, if_pos (by assumption)]) | (rw [itr, fHarv, itr_at9 locHarv σ hk8, if_neg (by assumption)])
          rw [q6] at hP
          refine W.widen (k := (k + 1)) (n := (6 * (k + 1))) (by omega) (by omega) ?_
          exact ih (k + 1) (by omega) (by omega)  _ _ _ hP hS (lv_sub hl [1, 0] rfl)
  refine k_iconst hx hb dX2_harvestAll_0 ?_
  refine lv_istore_n (lv' := [(1, .int (iI 0)), (0, .ref (ad 0))]) hx hb dX2_harvestAll_1 rfl hl (by decide) rfl (fun ls hl => ?_)
  have q7 : σ = itr fHarv σ 0 := by first | rfl | (rw [itr, fHarv, itr_at9 locHarv σ hk8, if_pos (by assumption)]) | (rw [itr, fHarv, itr_at9 locHarv σ hk8, if_neg (by assumption)])
  rw [q7] at hP
  refine W.widen (k := 0) (n := (6 * 0)) (by omega) (by omega) ?_
  exact loop ((σ 0 2).toNat + 1) 0 (Nat.zero_le _) (by omega)  _ _ _ hP hS (lv_sub hl [1, 0] rfl)
set_option maxHeartbeats 4000000 in
set_option maxRecDepth 100000 in
theorem h_next (l : Launch) (hfl : l.stackTraces = false) (G : va_G) (ad : Nat → Nat) (cy : Nat → ClassId) (hI : cI ad) (σ : Sg) (hB : cBd σ) : xMi l yX2_next wsX2_next ({ frames := 8, cells := 9, slots := 54, locals := 126 } : Room) G ad cy [.ref (ad 0)] σ (kNext σ) (σ 0 4 + 1) (fNext σ) 9 := by
  intro sz
  refine vx_ofW (cc := cX2_next) (maxL := 2) (ret := (some .int)) (by decide) rfl ?_
  intro p e s m args below meth cd s₁ B hml hno hv
  obtain ⟨rfl, hsz, hP, hK, hX⟩ := hv
  have hx := B.exec
  have hb := B.bytes
  have hr := B.returns
  have hts := atoms_spec (ws := wsX2_next) B.pre
  have hown : s.vm.findClass RX2 = some m.cls := findClass_of_methodNamed B.named
  have hlocks := B.notSynchronized
  subst hsz
  have hS : va_S (cA ad s.heap.size) s.heap s.heap [] := va_S.rf
  have hA : ∀ q, s.heap.size ≤ q → cA ad s.heap.size q := fun _ h => Or.inr h
  have hAc : ∀ j, j < 33 → cA ad s.heap.size (ad j) := fun j h => Or.inl ⟨j, h, rfl⟩
  have hl := lv_entry ([.ref (ad 0)]) (n := 2) (Nat.le_of_ble_eq_true rfl)
  rw [lg_entry_eq]
  generalize (lg_sl ([.ref (ad 0)]) ++ List.replicate (2 - (lg_sl ([.ref (ad 0)])).length) Slot.unset).toArray = ls at hl ⊢
  have hl : lv_has ls 2 [(0, .ref (ad 0))] := hl
  have hF2 : ∀ w ∈ wsX20, w ∈ wsX2_next := by decide +kernel
  have lf21 := hts (.fieldLink RX2 21 "HarvestLender" "count" "I") (by decide +kernel)
  have lf28 := hts (.fieldLink RX2 28 "HarvestLender" "stage" "I") (by decide +kernel)
  have lf17 := hts (.fieldLink RX2 17 "HarvestLender" "rows" "[LHarvestLender$Farmer;") (by decide +kernel)
  have hcnt := hB.1.1
  have hstg := hB.1.2.2
  have loop : ∀ (d k : Nat), k ≤ (σ 0 2).toNat → (σ 0 2).toNat < k + d → (σ 0 4 < 4) → ∀ (H : Heap) (locs : List Loc) (ls : Array Slot), va_P G vwCl (cW ad cy (itr fInterest (up σ 0 4 ((σ 0 4) + 1)) k)) H → va_S (cA ad s.heap.size) s.heap H locs → lv_has ls 2 [(0, .ref (ad 0)), (1, .int (iI (k : Int)))] → W p l e (headSpec wsX2_next ({ frames := 8, cells := 9, slots := 54, locals := 126 } : Room)).room s m ([.ref (ad 0)] : List Value).toArray below meth cd H locs 1 (6 * 1) (vx_MQ below (xQi G ad cy (kNext σ) (σ 0 4 + 1) (fNext σ) s.heap.size) (xX G ad cy (kNext σ) σ s.heap.size) ([.ref (ad 0)] : List Value).toArray s 9 (6 * 9) (cA ad s.heap.size)) (F0 m 28 ls []) := by
    intro d
    induction d with
    | zero => intro k h1 h2; exact absurd h2 (by omega)
    | succ d ih =>
      intro k hk hd hq0 H locs ls hP hS hl
      refine lv_iload_n hx hb dX2_next_28 rfl (lv_at hl 1 rfl) ?_
      refine lv_aload_n hx hb dX2_next_29 rfl (lv_at hl 0 rfl) ?_
      refine k_gH (v := .int (iI (σ 0 2))) hx hb hts hown hF2 hK hP 2 (by decide) lf21 dX2_next_30 rfl (congrArg (fun z => some (Value.int (iI z))) (by simp [itr_lt locInterest _ _ (r := 0) (by decide), up] : (itr fInterest (up σ 0 4 ((σ 0 4) + 1)) k) 0 2 = σ 0 2)) ?_
      refine k_icmp_ge (tgt := 51) hx hb dX2_next_33 (by decide) (by omega) (by omega) (fun c_1 => ?_) (fun c_1 => ?_)
      · have hP : va_P G vwCl (cW ad cy (fNext0 σ)) H := by (have e : k = (σ 0 2).toNat := by omega); (rw [e] at hP); exact hP
        refine lv_aload_n hx hb dX2_next_51 rfl (lv_at hl 0 rfl) ?_
        refine k_gH (v := .int (iI (σ 0 4 + 1))) hx hb hts hown hF2 hK hP 4 (by decide) lf28 dX2_next_52 rfl (congrArg (fun z => some (Value.int (iI z))) (by simp [fNext0_st] : (fNext0 σ) 0 4 = σ 0 4 + 1)) ?_
        refine k_iconst hx hb dX2_next_55 ?_
        refine k_icmp_ne (tgt := 63) hx hb dX2_next_56 (by decide) (by omega) (by decide) (fun c_2 => ?_) (fun c_2 => ?_)
        · refine lv_aload_n hx hb dX2_next_63 rfl (lv_at hl 0 rfl) ?_
          refine k_gH (v := .int (iI (σ 0 4 + 1))) hx hb hts hown hF2 hK hP 4 (by decide) lf28 dX2_next_64 rfl (congrArg (fun z => some (Value.int (iI z))) (by simp [fNext0_st] : (fNext0 σ) 0 4 = σ 0 4 + 1)) ?_
          have eF : fNext0 σ = fNext σ := by first | (rw [fNext, if_neg (by assumption)]) | (rw [fNext, if_pos (by assumption), fNext0_0 (by decide)])
          rw [eF] at hP
          have e0 : kNext σ = 0 := by (simp [kNext, cSeq, c_1, c_2] <;> omega)
          have eR : σ 0 4 + 1 = σ 0 4 + 1 := by rfl
          exact x_iret hx hb hr hlocks hK hP hS e0 eR dX2_next_67 (Nat.le_of_ble_eq_true rfl) (Nat.le_of_ble_eq_true rfl)
        · refine lv_aload_n hx hb dX2_next_59 rfl (lv_at hl 0 rfl) ?_
          refine k_xv (As := []) (rest := []) ⟨hx, hb, hml, hown, hts⟩ (h_harvAll l hfl G ad cy hI (fNext0 σ) (hv_next hB)) (cwV 0 hts gX2_next_X2_harvestAll rfl rfl rfl (by decide +kernel) ⟨Nat.le_of_ble_eq_true rfl, Nat.le_of_ble_eq_true rfl⟩) (cRecvH hK hP) hAc hA hK hX hP hS rfl hl.1 rfl (Nat.le_of_ble_eq_true rfl) dX2_next_60 ⟨Nat.le_of_ble_eq_true rfl, Nat.le_of_ble_eq_true rfl⟩ (fun E ce q9 H locs hN _ _ _ _ _ => absurd rfl (xN_ne hN)) (fun _ H locs hP hS => ?_)
          refine lv_aload_n hx hb dX2_next_63 rfl (lv_at hl 0 rfl) ?_
          refine k_gH (v := .int (iI (σ 0 4 + 1))) hx hb hts hown hF2 hK hP 4 (by decide) lf28 dX2_next_64 rfl (congrArg (fun z => some (Value.int (iI z))) (by simp [fNext0_st, itr_lt locHarv _ _ (r := 0) (by decide)] : (itr fHarv (fNext0 σ) ((fNext0 σ) 0 2).toNat) 0 4 = σ 0 4 + 1)) ?_
          have eF : itr fHarv (fNext0 σ) ((fNext0 σ) 0 2).toNat = fNext σ := by first | (rw [fNext, if_neg (by assumption)]) | (rw [fNext, if_pos (by assumption), fNext0_0 (by decide)])
          rw [eF] at hP
          have e0 : kNext σ = 0 := by (simp [kNext, cSeq, c_1, c_2] <;> omega)
          have eR : σ 0 4 + 1 = σ 0 4 + 1 := by rfl
          exact x_iret hx hb hr hlocks hK hP hS e0 eR dX2_next_67 (Nat.le_of_ble_eq_true rfl) (Nat.le_of_ble_eq_true rfl)
      · have hk8 : k < 8 := by omega
        obtain ⟨g0, g1, g2, g3, g5, g8, g9, g11, g12, g13, g14, g15, g16, gt⟩ := hB.2.2 k hk8
        refine lv_aload_n hx hb dX2_next_36 rfl (lv_at hl 0 rfl) ?_
        refine k_gH (v := .ref (ad 2)) hx hb hts hown hF2 hK hP 1 (by decide) lf17 dX2_next_37 rfl rfl ?_
        refine lv_iload_n hx hb dX2_next_40 rfl (lv_at hl 1 rfl) ?_
        refine k_fldN (x := k) hx hb hK hP (by omega) dX2_next_41 ?_
        refine k_cv (As := []) (rest := []) ⟨hx, hb, hml, hown, hts⟩ (c_interest l G ad cy hI (itr fInterest (up σ 0 4 ((σ 0 4) + 1)) k) k hk8 (by rw [itr_at9 locInterest _ hk8, up_r (by omega)]; omega)) (cwV 0 hts gX2_next_X1_chargeInterest rfl rfl rfl (by decide +kernel) ⟨Nat.le_of_ble_eq_true rfl, Nat.le_of_ble_eq_true rfl⟩) (cRecvF hK hP hk8) hAc hA hK hP hS rfl hl.1 rfl (Nat.le_of_ble_eq_true rfl) dX2_next_42 ⟨Nat.le_of_ble_eq_true rfl, Nat.le_of_ble_eq_true rfl⟩ (fun H locs hP hS => ?_)
        refine lv_iinc (v := iI ((k : Int) + 1)) (lv' := [(1, .int (iI ((k : Int) + 1))), (0, .ref (ad 0))]) hx hb dX2_next_45 hl (k := 1) rfl (iI_add _ _) (by decide) rfl (fun ls hl => ?_)
        refine lv_goto (tgt := 28) hx hb dX2_next_48 (by decide) ?_
        have q4 : fInterest (itr fInterest (up σ 0 4 ((σ 0 4) + 1)) k) k = itr fInterest (up σ 0 4 ((σ 0 4) + 1)) (k + 1) := by rfl
        rw [q4] at hP
        refine W.widen (k := 1) (n := (6 * 1)) (by omega) (by omega) ?_
        exact ih (k + 1) (by omega) (by omega) (by omega) _ _ _ hP hS (lv_sub hl [1, 0] rfl)
  refine lv_aload_n hx hb dX2_next_0 rfl (lv_at hl 0 rfl) ?_
  refine k_gH (v := .int (iI (σ 0 4))) hx hb hts hown hF2 hK hP 4 (by decide) lf28 dX2_next_1 rfl rfl ?_
  refine k_iconst hx hb dX2_next_4 ?_
  refine k_icmp_ge (tgt := 12) hx hb dX2_next_5 (by decide) (by omega) (by decide) (fun c_5 => ?_) (fun c_5 => ?_)
  · refine k_iconst hx hb dX2_next_12 ?_
    refine k_xsv (As := [.int (iI 0)]) (rest := []) ⟨hx, hb, hml, hown, hts⟩ (x_state l hfl G ad cy hI σ 0 (by omega)) (va_cwS 1 hts gX2_next_X2_requireState rfl rfl rfl (by decide +kernel) ⟨Nat.le_of_ble_eq_true rfl, Nat.le_of_ble_eq_true rfl⟩)  hAc hA hK hX hP hS rfl hl.1 rfl (Nat.le_of_ble_eq_true rfl) dX2_next_13 ⟨Nat.le_of_ble_eq_true rfl, Nat.le_of_ble_eq_true rfl⟩ (fun E ce q9 H locs hN hP hS e1 e2 e3 => ?_) (fun h9 => absurd h9 (by decide))
    exact x_out hno hlocks hK hP hS e1 e2 e3 (by rw [(show kNext σ = 3 by (simp [kNext, cSeq, c_5] <;> omega))]; exact hN) (Nat.le_of_ble_eq_true rfl) (Nat.le_of_ble_eq_true rfl)
  · refine k_iconst hx hb dX2_next_8 ?_
    refine lv_goto (tgt := 13) hx hb dX2_next_9 (by decide) ?_
    refine k_xsv (As := [.int (iI 1)]) (rest := []) ⟨hx, hb, hml, hown, hts⟩ (x_state l hfl G ad cy hI σ 1 (by omega)) (va_cwS 1 hts gX2_next_X2_requireState rfl rfl rfl (by decide +kernel) ⟨Nat.le_of_ble_eq_true rfl, Nat.le_of_ble_eq_true rfl⟩)  hAc hA hK hX hP hS rfl hl.1 rfl (Nat.le_of_ble_eq_true rfl) dX2_next_13 ⟨Nat.le_of_ble_eq_true rfl, Nat.le_of_ble_eq_true rfl⟩ (fun E ce q9 H locs hN _ _ _ _ _ => absurd rfl (xN_ne hN)) (fun _ H locs hP hS => ?_)
    refine lv_aload_n hx hb dX2_next_16 rfl (lv_at hl 0 rfl) ?_
    refine lv_dup hx hb dX2_next_17 rfl ?_
    refine k_gH (v := .int (iI (σ 0 4))) hx hb hts hown hF2 hK hP 4 (by decide) lf28 dX2_next_18 rfl rfl ?_
    refine k_iconst hx hb dX2_next_21 ?_
    refine k_iadd hx hb dX2_next_22 ?_
    refine k_pH (v := (σ 0 4) + 1) hx hb hts hown hF2 hI hAc hK hP hS 4 (by decide) (by decide) lf28 dX2_next_23 rfl rfl (by decide +kernel) (fun H locs hP hS => ?_)
    refine k_iconst hx hb dX2_next_26 ?_
    refine lv_istore_n (lv' := [(1, .int (iI 0)), (0, .ref (ad 0))]) hx hb dX2_next_27 rfl hl (by decide) rfl (fun ls hl => ?_)
    have q8 : up σ 0 4 ((σ 0 4) + 1) = itr fInterest (up σ 0 4 ((σ 0 4) + 1)) 0 := by rfl
    rw [q8] at hP
    refine W.widen (k := 1) (n := (6 * 1)) (by omega) (by omega) ?_
    exact loop ((σ 0 2).toNat + 1) 0 (Nat.zero_le _) (by omega) (by omega) _ _ _ hP hS (lv_sub hl [1, 0] rfl)
set_option maxHeartbeats 4000000 in
set_option maxRecDepth 100000 in
theorem h_close (l : Launch) (hfl : l.stackTraces = false) (G : va_G) (ad : Nat → Nat) (cy : Nat → ClassId) (hI : cI ad) (σ : Sg) (hB : cBd σ) : xMi l yX2_close wsX2_close ({ frames := 7, cells := 1, slots := 6, locals := 104 } : Room) G ad cy [.ref (ad 0)] σ (kClose σ) (σ 0 3 + 1) (fClose σ) 1 := by
  intro sz
  refine vx_ofW (cc := cX2_close) (maxL := 2) (ret := (some .int)) (by decide) rfl ?_
  intro p e s m args below meth cd s₁ B hml hno hv
  obtain ⟨rfl, hsz, hP, hK, hX⟩ := hv
  have hx := B.exec
  have hb := B.bytes
  have hr := B.returns
  have hts := atoms_spec (ws := wsX2_close) B.pre
  have hown : s.vm.findClass RX2 = some m.cls := findClass_of_methodNamed B.named
  have hlocks := B.notSynchronized
  subst hsz
  have hS : va_S (cA ad s.heap.size) s.heap s.heap [] := va_S.rf
  have hA : ∀ q, s.heap.size ≤ q → cA ad s.heap.size q := fun _ h => Or.inr h
  have hAc : ∀ j, j < 33 → cA ad s.heap.size (ad j) := fun j h => Or.inl ⟨j, h, rfl⟩
  have hl := lv_entry ([.ref (ad 0)]) (n := 2) (Nat.le_of_ble_eq_true rfl)
  rw [lg_entry_eq]
  generalize (lg_sl ([.ref (ad 0)]) ++ List.replicate (2 - (lg_sl ([.ref (ad 0)])).length) Slot.unset).toArray = ls at hl ⊢
  have hl : lv_has ls 2 [(0, .ref (ad 0))] := hl
  have hF2 : ∀ w ∈ wsX20, w ∈ wsX2_close := by decide +kernel
  have lf21 := hts (.fieldLink RX2 21 "HarvestLender" "count" "I") (by decide +kernel)
  have lf25 := hts (.fieldLink RX2 25 "HarvestLender" "season" "I") (by decide +kernel)
  have lf28 := hts (.fieldLink RX2 28 "HarvestLender" "stage" "I") (by decide +kernel)
  have lf17 := hts (.fieldLink RX2 17 "HarvestLender" "rows" "[LHarvestLender$Farmer;") (by decide +kernel)
  have hcnt := hB.1.1
  have hstg := hB.1.2.2
  have hsea := hB.1.2.1
  have loop3 : ∀ (d k : Nat), k ≤ (σ 0 2).toNat → (σ 0 2).toNat < k + d → (σ 0 4 = 4 ∧ σ 0 3 < 20) → ∀ (H : Heap) (locs : List Loc) (ls : Array Slot), va_P G vwCl (cW ad cy (itr fForget (fClose1 σ) k)) H → va_S (cA ad s.heap.size) s.heap H locs → lv_has ls 2 [(0, .ref (ad 0)), (1, .int (iI (k : Int)))] → W p l e (headSpec wsX2_close ({ frames := 7, cells := 1, slots := 6, locals := 104 } : Room)).room s m ([.ref (ad 0)] : List Value).toArray below meth cd H locs 1 (6 * 1) (vx_MQ below (xQi G ad cy (kClose σ) (σ 0 3 + 1) (fClose σ) s.heap.size) (xX G ad cy (kClose σ) σ s.heap.size) ([.ref (ad 0)] : List Value).toArray s 1 (6 * 1) (cA ad s.heap.size)) (F0 m 78 ls []) := by
    intro d
    induction d with
    | zero => intro k h1 h2; exact absurd h2 (by omega)
    | succ d ih =>
      intro k hk hd hq0 H locs ls hP hS hl
      refine lv_iload_n hx hb dX2_close_78 rfl (lv_at hl 1 rfl) ?_
      refine lv_aload_n hx hb dX2_close_79 rfl (lv_at hl 0 rfl) ?_
      refine k_gH (v := .int (iI (σ 0 2))) hx hb hts hown hF2 hK hP 2 (by decide) lf21 dX2_close_80 rfl (congrArg (fun z => some (Value.int (iI z))) (by simp [fClose1_r, itr_lt locForget _ _ (r := 0) (by decide)] : (itr fForget (fClose1 σ) k) 0 2 = σ 0 2)) ?_
      refine k_icmp_ge (tgt := 101) hx hb dX2_close_83 (by decide) (by omega) (by omega) (fun c_1 => ?_) (fun c_1 => ?_)
      · have hP : va_P G vwCl (cW ad cy (fClose2 σ)) H := by (have e : k = (σ 0 2).toNat := by omega); (rw [e] at hP); exact hP
        refine lv_aload_n hx hb dX2_close_101 rfl (lv_at hl 0 rfl) ?_
        refine lv_dup hx hb dX2_close_102 rfl ?_
        refine k_gH (v := .int (iI (σ 0 3))) hx hb hts hown hF2 hK hP 3 (by decide) lf25 dX2_close_103 rfl (congrArg (fun z => some (Value.int (iI z))) (by simp [fClose2_r] : (fClose2 σ) 0 3 = σ 0 3)) ?_
        refine k_iconst hx hb dX2_close_106 ?_
        refine k_iadd hx hb dX2_close_107 ?_
        refine k_pH (v := (σ 0 3) + 1) hx hb hts hown hF2 hI hAc hK hP hS 3 (by decide) (by decide) lf25 dX2_close_108 rfl rfl (by decide +kernel) (fun H locs hP hS => ?_)
        refine lv_aload_n hx hb dX2_close_111 rfl (lv_at hl 0 rfl) ?_
        refine k_iconst hx hb dX2_close_112 ?_
        refine k_pH (v := 0) hx hb hts hown hF2 hI hAc hK hP hS 4 (by decide) (by decide) lf28 dX2_close_113 rfl rfl (by decide +kernel) (fun H locs hP hS => ?_)
        refine lv_aload_n hx hb dX2_close_116 rfl (lv_at hl 0 rfl) ?_
        refine k_gH (v := .int (iI ((σ 0 3) + 1))) hx hb hts hown hF2 hK hP 3 (by decide) lf25 dX2_close_117 rfl (congrArg (fun z => some (Value.int (iI z))) (by simp [up] : (up (up (fClose2 σ) 0 3 ((σ 0 3) + 1)) 0 4 0) 0 3 = (σ 0 3) + 1)) ?_
        have eF : up (up (fClose2 σ) 0 3 ((σ 0 3) + 1)) 0 4 0 = fClose σ := by rfl
        rw [eF] at hP
        have e0 : kClose σ = 0 := by (simp [kClose, cSeq, c_1] <;> omega)
        have eR : (σ 0 3) + 1 = σ 0 3 + 1 := by rfl
        exact x_iret hx hb hr hlocks hK hP hS e0 eR dX2_close_120 (Nat.le_of_ble_eq_true rfl) (Nat.le_of_ble_eq_true rfl)
      · have hk8 : k < 8 := by omega
        refine lv_aload_n hx hb dX2_close_86 rfl (lv_at hl 0 rfl) ?_
        refine k_gH (v := .ref (ad 2)) hx hb hts hown hF2 hK hP 1 (by decide) lf17 dX2_close_87 rfl rfl ?_
        refine lv_iload_n hx hb dX2_close_90 rfl (lv_at hl 1 rfl) ?_
        refine k_fldN (x := k) hx hb hK hP (by omega) dX2_close_91 ?_
        refine k_cv (As := []) (rest := []) ⟨hx, hb, hml, hown, hts⟩ (c_forget l G ad cy hI (itr fForget (fClose1 σ) k) k hk8) (cwV 0 hts gX2_close_X1_forgetSeason rfl rfl rfl (by decide +kernel) ⟨Nat.le_of_ble_eq_true rfl, Nat.le_of_ble_eq_true rfl⟩) (cRecvF hK hP hk8) hAc hA hK hP hS rfl hl.1 rfl (Nat.le_of_ble_eq_true rfl) dX2_close_92 ⟨Nat.le_of_ble_eq_true rfl, Nat.le_of_ble_eq_true rfl⟩ (fun H locs hP hS => ?_)
        refine lv_iinc (v := iI ((k : Int) + 1)) (lv' := [(1, .int (iI ((k : Int) + 1))), (0, .ref (ad 0))]) hx hb dX2_close_95 hl (k := 1) rfl (iI_add _ _) (by decide) rfl (fun ls hl => ?_)
        refine lv_goto (tgt := 78) hx hb dX2_close_98 (by decide) ?_
        have q2 : fForget (itr fForget (fClose1 σ) k) k = itr fForget (fClose1 σ) (k + 1) := by rfl
        rw [q2] at hP
        refine W.widen (k := 1) (n := (6 * 1)) (by omega) (by omega) ?_
        exact ih (k + 1) (by omega) (by omega) (by omega) _ _ _ hP hS (lv_sub hl [1, 0] rfl)
  have loop2 : ∀ (d k : Nat), k ≤ (σ 0 2).toNat → (σ 0 2).toNat < k + d → (σ 0 4 = 4 ∧ σ 0 3 < 20) → ∀ (H : Heap) (locs : List Loc) (ls : Array Slot), va_P G vwCl (cW ad cy (itr fRest (fClose0 σ) k)) H → va_S (cA ad s.heap.size) s.heap H locs → lv_has ls 2 [(0, .ref (ad 0)), (1, .int (iI (k : Int)))] → W p l e (headSpec wsX2_close ({ frames := 7, cells := 1, slots := 6, locals := 104 } : Room)).room s m ([.ref (ad 0)] : List Value).toArray below meth cd H locs 1 (6 * 1) (vx_MQ below (xQi G ad cy (kClose σ) (σ 0 3 + 1) (fClose σ) s.heap.size) (xX G ad cy (kClose σ) σ s.heap.size) ([.ref (ad 0)] : List Value).toArray s 1 (6 * 1) (cA ad s.heap.size)) (F0 m 52 ls []) := by
    intro d
    induction d with
    | zero => intro k h1 h2; exact absurd h2 (by omega)
    | succ d ih =>
      intro k hk hd hq0 H locs ls hP hS hl
      refine lv_iload_n hx hb dX2_close_52 rfl (lv_at hl 1 rfl) ?_
      refine lv_aload_n hx hb dX2_close_53 rfl (lv_at hl 0 rfl) ?_
      refine k_gH (v := .int (iI (σ 0 2))) hx hb hts hown hF2 hK hP 2 (by decide) lf21 dX2_close_54 rfl (congrArg (fun z => some (Value.int (iI z))) (by simp [fClose0_r, itrR_lt] : (itr fRest (fClose0 σ) k) 0 2 = σ 0 2)) ?_
      refine k_icmp_ge (tgt := 76) hx hb dX2_close_57 (by decide) (by omega) (by omega) (fun c_3 => ?_) (fun c_3 => ?_)
      · have hP : va_P G vwCl (cW ad cy (fClose1 σ)) H := by (have e : k = (σ 0 2).toNat := by omega); (rw [e] at hP); exact hP
        refine k_iconst hx hb dX2_close_76 ?_
        refine lv_istore_n (lv' := [(1, .int (iI 0)), (0, .ref (ad 0))]) hx hb dX2_close_77 rfl hl (by decide) rfl (fun ls hl => ?_)
        have q4 : fClose1 σ = itr fForget (fClose1 σ) 0 := by rfl
        rw [q4] at hP
        refine W.widen (k := 1) (n := (6 * 1)) (by omega) (by omega) ?_
        exact loop3 ((σ 0 2).toNat + 1) 0 (Nat.zero_le _) (by omega) (by omega) _ _ _ hP hS (lv_sub hl [1, 0] rfl)
      · have hk8 : k < 8 := by omega
        refine lv_aload_n hx hb dX2_close_60 rfl (lv_at hl 0 rfl) ?_
        refine lv_aload_n hx hb dX2_close_61 rfl (lv_at hl 0 rfl) ?_
        refine k_gH (v := .ref (ad 2)) hx hb hts hown hF2 hK hP 1 (by decide) lf17 dX2_close_62 rfl rfl ?_
        refine lv_iload_n hx hb dX2_close_65 rfl (lv_at hl 1 rfl) ?_
        refine k_fldN (x := k) hx hb hK hP (by omega) dX2_close_66 ?_
        refine k_cv (As := [.ref (ad (9 + k))]) (rest := []) ⟨hx, hb, hml, hown, hts⟩ (c_rest l G ad cy hI (itr fRest (fClose0 σ) k) (by rw [itrR_lt (by decide), fClose0_r (by decide)]; exact hcnt) k hk8 (ok_rests hB k (by omega))) (cwV 1 hts gX2_close_X2_settleRest rfl rfl rfl (by decide +kernel) ⟨Nat.le_of_ble_eq_true rfl, Nat.le_of_ble_eq_true rfl⟩) (cRecvH hK hP) hAc hA hK hP hS rfl hl.1 rfl (Nat.le_of_ble_eq_true rfl) dX2_close_67 ⟨Nat.le_of_ble_eq_true rfl, Nat.le_of_ble_eq_true rfl⟩ (fun H locs hP hS => ?_)
        refine lv_iinc (v := iI ((k : Int) + 1)) (lv' := [(1, .int (iI ((k : Int) + 1))), (0, .ref (ad 0))]) hx hb dX2_close_70 hl (k := 1) rfl (iI_add _ _) (by decide) rfl (fun ls hl => ?_)
        refine lv_goto (tgt := 52) hx hb dX2_close_73 (by decide) ?_
        have q5 : fRest (itr fRest (fClose0 σ) k) k = itr fRest (fClose0 σ) (k + 1) := by rfl
        rw [q5] at hP
        refine W.widen (k := 1) (n := (6 * 1)) (by omega) (by omega) ?_
        exact ih (k + 1) (by omega) (by omega) (by omega) _ _ _ hP hS (lv_sub hl [1, 0] rfl)
  have loop1 : ∀ (d k : Nat), k ≤ (σ 0 2).toNat → (σ 0 2).toNat < k + d → (σ 0 4 = 4 ∧ σ 0 3 < 20) → ∀ (H : Heap) (locs : List Loc) (ls : Array Slot), va_P G vwCl (cW ad cy (itr fSettle σ k)) H → va_S (cA ad s.heap.size) s.heap H locs → lv_has ls 2 [(0, .ref (ad 0)), (1, .int (iI (k : Int)))] → W p l e (headSpec wsX2_close ({ frames := 7, cells := 1, slots := 6, locals := 104 } : Room)).room s m ([.ref (ad 0)] : List Value).toArray below meth cd H locs 1 (6 * 1) (vx_MQ below (xQi G ad cy (kClose σ) (σ 0 3 + 1) (fClose σ) s.heap.size) (xX G ad cy (kClose σ) σ s.heap.size) ([.ref (ad 0)] : List Value).toArray s 1 (6 * 1) (cA ad s.heap.size)) (F0 m 27 ls []) := by
    intro d
    induction d with
    | zero => intro k h1 h2; exact absurd h2 (by omega)
    | succ d ih =>
      intro k hk hd hq0 H locs ls hP hS hl
      refine lv_iload_n hx hb dX2_close_27 rfl (lv_at hl 1 rfl) ?_
      refine lv_aload_n hx hb dX2_close_28 rfl (lv_at hl 0 rfl) ?_
      refine k_gH (v := .int (iI (σ 0 2))) hx hb hts hown hF2 hK hP 2 (by decide) lf21 dX2_close_29 rfl (congrArg (fun z => some (Value.int (iI z))) (by simp [itr_lt locSettle _ _ (r := 0) (by decide)] : (itr fSettle σ k) 0 2 = σ 0 2)) ?_
      refine k_icmp_ge (tgt := 50) hx hb dX2_close_32 (by decide) (by omega) (by omega) (fun c_6 => ?_) (fun c_6 => ?_)
      · have hP : va_P G vwCl (cW ad cy (fClose0 σ)) H := by (have e : k = (σ 0 2).toNat := by omega); (rw [e] at hP); exact hP
        refine k_iconst hx hb dX2_close_50 ?_
        refine lv_istore_n (lv' := [(1, .int (iI 0)), (0, .ref (ad 0))]) hx hb dX2_close_51 rfl hl (by decide) rfl (fun ls hl => ?_)
        have q7 : fClose0 σ = itr fRest (fClose0 σ) 0 := by rfl
        rw [q7] at hP
        refine W.widen (k := 1) (n := (6 * 1)) (by omega) (by omega) ?_
        exact loop2 ((σ 0 2).toNat + 1) 0 (Nat.zero_le _) (by omega) (by omega) _ _ _ hP hS (lv_sub hl [1, 0] rfl)
      · have hk8 : k < 8 := by omega
        refine lv_aload_n hx hb dX2_close_35 rfl (lv_at hl 0 rfl) ?_
        refine k_gH (v := .ref (ad 2)) hx hb hts hown hF2 hK hP 1 (by decide) lf17 dX2_close_36 rfl rfl ?_
        refine lv_iload_n hx hb dX2_close_39 rfl (lv_at hl 1 rfl) ?_
        refine k_fldN (x := k) hx hb hK hP (by omega) dX2_close_40 ?_
        refine k_cv (As := []) (rest := []) ⟨hx, hb, hml, hown, hts⟩ (c_settle l G ad cy hI (itr fSettle σ k) k hk8 (settle_ok hB hk8).1 (settle_ok hB hk8).2.1 (settle_ok hB hk8).2.2) (cwV 0 hts gX2_close_X1_settleFromPurse rfl rfl rfl (by decide +kernel) ⟨Nat.le_of_ble_eq_true rfl, Nat.le_of_ble_eq_true rfl⟩) (cRecvF hK hP hk8) hAc hA hK hP hS rfl hl.1 rfl (Nat.le_of_ble_eq_true rfl) dX2_close_41 ⟨Nat.le_of_ble_eq_true rfl, Nat.le_of_ble_eq_true rfl⟩ (fun H locs hP hS => ?_)
        refine lv_iinc (v := iI ((k : Int) + 1)) (lv' := [(1, .int (iI ((k : Int) + 1))), (0, .ref (ad 0))]) hx hb dX2_close_44 hl (k := 1) rfl (iI_add _ _) (by decide) rfl (fun ls hl => ?_)
        refine lv_goto (tgt := 27) hx hb dX2_close_47 (by decide) ?_
        have q8 : fSettle (itr fSettle σ k) k = itr fSettle σ (k + 1) := by rfl
        rw [q8] at hP
        refine W.widen (k := 1) (n := (6 * 1)) (by omega) (by omega) ?_
        exact ih (k + 1) (by omega) (by omega) (by omega) _ _ _ hP hS (lv_sub hl [1, 0] rfl)
  refine lv_aload_n hx hb dX2_close_0 rfl (lv_at hl 0 rfl) ?_
  refine k_gH (v := .int (iI (σ 0 4))) hx hb hts hown hF2 hK hP 4 (by decide) lf28 dX2_close_1 rfl rfl ?_
  refine k_iconst hx hb dX2_close_4 ?_
  refine k_icmp_ne (tgt := 21) hx hb dX2_close_5 (by decide) (by omega) (by decide) (fun c_9 => ?_) (fun c_9 => ?_)
  · refine k_iconst hx hb dX2_close_21 ?_
    refine k_xsv (As := [.int (iI 0)]) (rest := []) ⟨hx, hb, hml, hown, hts⟩ (x_state l hfl G ad cy hI σ 0 (by omega)) (va_cwS 1 hts gX2_close_X2_requireState rfl rfl rfl (by decide +kernel) ⟨Nat.le_of_ble_eq_true rfl, Nat.le_of_ble_eq_true rfl⟩)  hAc hA hK hX hP hS rfl hl.1 rfl (Nat.le_of_ble_eq_true rfl) dX2_close_22 ⟨Nat.le_of_ble_eq_true rfl, Nat.le_of_ble_eq_true rfl⟩ (fun E ce q9 H locs hN hP hS e1 e2 e3 => ?_) (fun h9 => absurd h9 (by decide))
    exact x_out hno hlocks hK hP hS e1 e2 e3 (by rw [(show kClose σ = 3 by (simp [kClose, cSeq, c_9] <;> omega))]; exact hN) (Nat.le_of_ble_eq_true rfl) (Nat.le_of_ble_eq_true rfl)
  · refine lv_aload_n hx hb dX2_close_8 rfl (lv_at hl 0 rfl) ?_
    refine k_gH (v := .int (iI (σ 0 3))) hx hb hts hown hF2 hK hP 3 (by decide) lf25 dX2_close_9 rfl rfl ?_
    refine k_bipush hx hb dX2_close_12 (by decide) ?_
    refine k_icmp_ge (tgt := 21) hx hb dX2_close_14 (by decide) (by omega) (by decide) (fun c_11 => ?_) (fun c_11 => ?_)
    · refine k_iconst hx hb dX2_close_21 ?_
      refine k_xsv (As := [.int (iI 0)]) (rest := []) ⟨hx, hb, hml, hown, hts⟩ (x_state l hfl G ad cy hI σ 0 (by omega)) (va_cwS 1 hts gX2_close_X2_requireState rfl rfl rfl (by decide +kernel) ⟨Nat.le_of_ble_eq_true rfl, Nat.le_of_ble_eq_true rfl⟩)  hAc hA hK hX hP hS rfl hl.1 rfl (Nat.le_of_ble_eq_true rfl) dX2_close_22 ⟨Nat.le_of_ble_eq_true rfl, Nat.le_of_ble_eq_true rfl⟩ (fun E ce q9 H locs hN hP hS e1 e2 e3 => ?_) (fun h9 => absurd h9 (by decide))
      exact x_out hno hlocks hK hP hS e1 e2 e3 (by rw [(show kClose σ = 3 by (simp [kClose, cSeq, c_9, c_11] <;> omega))]; exact hN) (Nat.le_of_ble_eq_true rfl) (Nat.le_of_ble_eq_true rfl)
    · refine k_iconst hx hb dX2_close_17 ?_
      refine lv_goto (tgt := 22) hx hb dX2_close_18 (by decide) ?_
      refine k_xsv (As := [.int (iI 1)]) (rest := []) ⟨hx, hb, hml, hown, hts⟩ (x_state l hfl G ad cy hI σ 1 (by omega)) (va_cwS 1 hts gX2_close_X2_requireState rfl rfl rfl (by decide +kernel) ⟨Nat.le_of_ble_eq_true rfl, Nat.le_of_ble_eq_true rfl⟩)  hAc hA hK hX hP hS rfl hl.1 rfl (Nat.le_of_ble_eq_true rfl) dX2_close_22 ⟨Nat.le_of_ble_eq_true rfl, Nat.le_of_ble_eq_true rfl⟩ (fun E ce q9 H locs hN _ _ _ _ _ => absurd rfl (xN_ne hN)) (fun _ H locs hP hS => ?_)
      refine k_iconst hx hb dX2_close_25 ?_
      refine lv_istore_n (lv' := [(1, .int (iI 0)), (0, .ref (ad 0))]) hx hb dX2_close_26 rfl hl (by decide) rfl (fun ls hl => ?_)
      have q14 : σ = itr fSettle σ 0 := by rfl
      rw [q14] at hP
      refine W.widen (k := 1) (n := (6 * 1)) (by omega) (by omega) ?_
      exact loop1 ((σ 0 2).toNat + 1) 0 (Nat.zero_le _) (by omega) (by omega) _ _ _ hP hS (lv_sub hl [1, 0] rfl)
