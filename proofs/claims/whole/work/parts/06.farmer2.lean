set_option maxHeartbeats 4000000 in
set_option maxRecDepth 100000 in
theorem c_needUp (l : Launch) (G : va_G) (ad : Nat → Nat) (cy : Nat → ClassId) (hI : cI ad) (σ : Sg) (c : Nat) (hc : c < 3) (st : Int) (hst : 0 ≤ st ∧ st ≤ 100) : cMi l yX0_needUpTo wsX0_needUpTo ({ frames := 0, cells := 0, slots := 0, locals := 0 } : Room) G ad cy [.ref (ad (3 + c)), .int (iI st)] σ (fNeedUp σ c st) σ := by
  intro sz
  refine Met.ofW (cc := cX0_needUpTo) (maxL := 4) (ret := (some .int)) (by decide) rfl ?_
  intro p e s m args below meth cd s₁ B hml hv
  obtain ⟨rfl, hsz, hP, hK⟩ := hv
  have hx := B.exec
  have hb := B.bytes
  have hr := B.returns
  have hts := atoms_spec (ws := wsX0_needUpTo) B.pre
  have hown : s.vm.findClass RX0 = some m.cls := findClass_of_methodNamed B.named
  have hlocks := B.notSynchronized
  subst hsz
  have hS : va_S (cA ad s.heap.size) s.heap s.heap [] := va_S.rf
  have hA : ∀ q, s.heap.size ≤ q → cA ad s.heap.size q := fun _ h => Or.inr h
  have hAc : ∀ j, j < 33 → cA ad s.heap.size (ad j) := fun j h => Or.inl ⟨j, h, rfl⟩
  have hl := lv_entry ([.ref (ad (3 + c)), .int (iI st)]) (n := 4) (Nat.le_of_ble_eq_true rfl)
  rw [lg_entry_eq]
  generalize (lg_sl ([.ref (ad (3 + c)), .int (iI st)]) ++ List.replicate (4 - (lg_sl ([.ref (ad (3 + c)), .int (iI st)])).length) Slot.unset).toArray = ls at hl ⊢
  have hl : lv_has ls 4 [(0, .ref (ad (3 + c))), (1, .int (iI st))] := hl
  have hF0 : ∀ w ∈ wsX00, w ∈ wsX0_needUpTo := by decide +kernel
  have lf9 := hts (.fieldLink RX0 9 "HarvestLender$Crop" "needs" "[I") (by decide +kernel)
  have loop : ∀ (d k : Nat), k ≤ 4 → 4 < k + d → ((k : Int) ≤ st + 1) → ∀ (H : Heap) (locs : List Loc) (ls : Array Slot), va_P G vwCl (cW ad cy σ) H → va_S (cA ad s.heap.size) s.heap H locs → lv_has ls 4 [(0, .ref (ad (3 + c))), (1, .int (iI st)), (2, .int (iI (fNeed σ c k))), (3, .int (iI (k : Int)))] → W p l e (headSpec wsX0_needUpTo ({ frames := 0, cells := 0, slots := 0, locals := 0 } : Room)).room s m ([.ref (ad (3 + c)), .int (iI st)] : List Value).toArray below meth cd H locs 0 0 (MQ below (va_Qi (fun (v : Int32) (u : Sg) => v = iI (fNeedUp σ c st) ∧ u = σ) (cB G ad cy) (cA ad s.heap.size)) ([.ref (ad (3 + c)), .int (iI st)] : List Value).toArray s 0 0 (cA ad s.heap.size)) (F0 m 4 ls []) := by
    intro d
    induction d with
    | zero => intro k h1 h2; exact absurd h2 (by omega)
    | succ d ih =>
      intro k hk hd hq0 H locs ls hP hS hl
      refine lv_iload_n hx hb dX0_needUpTo_4 rfl (lv_at hl 3 rfl) ?_
      refine k_iconst hx hb dX0_needUpTo_5 ?_
      refine k_icmp_ge (tgt := 29) hx hb dX0_needUpTo_6 (by decide) (by omega) (by decide) (fun c_1 => ?_) (fun c_1 => ?_)
      · refine lv_iload_n hx hb dX0_needUpTo_29 rfl (lv_at hl 2 rfl) ?_
        have eR : fNeed σ c k = fNeedUp σ c st := by (have q : (mn 4 (st + 1)).toNat = k := by (unfold mn; split <;> omega)); (unfold fNeedUp; rw [q])
        exact W.iret hx hb hr (fun t ht hW => ⟨⟨_, _, rfl, ⟨by rw [eR], rfl⟩, by rw [ht]; exact hP, va_K.moved hW.alike hK⟩, hS.F ht⟩) hS.2.2 dX0_needUpTo_30
      · refine lv_iload_n hx hb dX0_needUpTo_9 rfl (lv_at hl 3 rfl) ?_
        refine lv_iload_n hx hb dX0_needUpTo_10 rfl (lv_at hl 1 rfl) ?_
        refine k_icmp_gt (tgt := 29) hx hb dX0_needUpTo_11 (by decide) (by omega) (by omega) (fun c_2 => ?_) (fun c_2 => ?_)
        · refine lv_iload_n hx hb dX0_needUpTo_29 rfl (lv_at hl 2 rfl) ?_
          have eR : fNeed σ c k = fNeedUp σ c st := by (have q : (mn 4 (st + 1)).toNat = k := by (unfold mn; split <;> omega)); (unfold fNeedUp; rw [q])
          exact W.iret hx hb hr (fun t ht hW => ⟨⟨_, _, rfl, ⟨by rw [eR], rfl⟩, by rw [ht]; exact hP, va_K.moved hW.alike hK⟩, hS.F ht⟩) hS.2.2 dX0_needUpTo_30
        · refine lv_iload_n hx hb dX0_needUpTo_14 rfl (lv_at hl 2 rfl) ?_
          refine lv_aload_n hx hb dX0_needUpTo_15 rfl (lv_at hl 0 rfl) ?_
          refine k_gC (i := c) (v := .ref (ad (6 + c))) hx hb hts hown hF0 hK hP hc 0 (by decide) lf9 dX0_needUpTo_16 rfl rfl ?_
          refine lv_iload_n hx hb dX0_needUpTo_19 rfl (lv_at hl 3 rfl) ?_
          refine k_nldN (i := c) (x := k) hx hb hK hP hc (by omega) dX0_needUpTo_20 ?_
          refine k_iadd hx hb dX0_needUpTo_21 ?_
          refine lv_istore_n (lv' := [(2, .int (iI ((fNeed σ c k) + (σ (6 + c) k)))), (0, .ref (ad (3 + c))), (1, .int (iI st)), (3, .int (iI (k : Int)))]) hx hb dX0_needUpTo_22 rfl hl (by decide) rfl (fun ls hl => ?_)
          refine lv_iinc (v := iI ((k : Int) + 1)) (lv' := [(3, .int (iI ((k : Int) + 1))), (2, .int (iI ((fNeed σ c k) + (σ (6 + c) k)))), (0, .ref (ad (3 + c))), (1, .int (iI st))]) hx hb dX0_needUpTo_23 hl (k := 3) rfl (iI_add _ _) (by decide) rfl (fun ls hl => ?_)
          refine lv_goto (tgt := 4) hx hb dX0_needUpTo_26 (by decide) ?_
          have q3 : fNeed σ c (k + 1) = (fNeed σ c k) + (σ (6 + c) k) := by rfl
          exact ih (k + 1) (by omega) (by omega) (by omega) _ _ _ hP hS (by rw [q3]; exact lv_sub hl [2, 3, 1, 0] rfl)
  refine k_iconst hx hb dX0_needUpTo_0 ?_
  refine lv_istore_n (lv' := [(2, .int (iI 0)), (0, .ref (ad (3 + c))), (1, .int (iI st))]) hx hb dX0_needUpTo_1 rfl hl (by decide) rfl (fun ls hl => ?_)
  refine k_iconst hx hb dX0_needUpTo_2 ?_
  refine lv_istore_n (lv' := [(3, .int (iI 0)), (2, .int (iI 0)), (0, .ref (ad (3 + c))), (1, .int (iI st))]) hx hb dX0_needUpTo_3 rfl hl (by decide) rfl (fun ls hl => ?_)
  have q4 : fNeed σ c 0 = 0 := by rfl
  exact loop (4 + 1) 0 (Nat.zero_le _) (by omega) (by omega) _ _ _ hP hS (by rw [q4]; exact lv_sub hl [2, 3, 1, 0] rfl)
set_option maxHeartbeats 4000000 in
set_option maxRecDepth 100000 in
theorem c_harvest (l : Launch) (G : va_G) (ad : Nat → Nat) (cy : Nat → ClassId) (hI : cI ad) (σ : Sg) (i : Nat) (hi : i < 8) (c : Nat) (hc : c < 3) (hh : 0 ≤ σ (9 + i) 13 ∧ σ (9 + i) 13 ≤ 50) (hn : 0 ≤ σ (3 + c) 2 ∧ σ (3 + c) 2 ≤ 100) (hy : 0 ≤ σ (9 + i) 15 ∧ σ (9 + i) 15 ≤ 200) (hpr : 0 ≤ σ (3 + c) 1 ∧ σ (3 + c) 1 ≤ 5000) (hcv : 0 ≤ σ (9 + i) 14 ∧ σ (9 + i) 14 ≤ 90) (h2 : nB (σ (9 + i) 2)) : cMv l yX1_harvest wsX1_harvest ({ frames := 2, cells := 0, slots := 0, locals := 48 } : Room) G ad cy [.ref (ad (9 + i)), .ref (ad (3 + c))] σ (fHarvest σ i c) := by
  intro sz
  refine Met.ofW (cc := cX1_harvest) (maxL := 5) (ret := none) (by decide) rfl ?_
  intro p e s m args below meth cd s₁ B hml hv
  obtain ⟨rfl, hsz, hP, hK⟩ := hv
  have hx := B.exec
  have hb := B.bytes
  have hr := B.returns
  have hts := atoms_spec (ws := wsX1_harvest) B.pre
  have hown : s.vm.findClass RX1 = some m.cls := findClass_of_methodNamed B.named
  have hlocks := B.notSynchronized
  subst hsz
  have hS : va_S (cA ad s.heap.size) s.heap s.heap [] := va_S.rf
  have hA : ∀ q, s.heap.size ≤ q → cA ad s.heap.size q := fun _ h => Or.inr h
  have hAc : ∀ j, j < 33 → cA ad s.heap.size (ad j) := fun j h => Or.inl ⟨j, h, rfl⟩
  have hl := lv_entry ([.ref (ad (9 + i)), .ref (ad (3 + c))]) (n := 5) (Nat.le_of_ble_eq_true rfl)
  rw [lg_entry_eq]
  generalize (lg_sl ([.ref (ad (9 + i)), .ref (ad (3 + c))]) ++ List.replicate (5 - (lg_sl ([.ref (ad (9 + i)), .ref (ad (3 + c))])).length) Slot.unset).toArray = ls at hl ⊢
  have hl : lv_has ls 5 [(0, .ref (ad (9 + i))), (1, .ref (ad (3 + c)))] := hl
  have hF0 : ∀ w ∈ wsX00, w ∈ wsX1_harvest := by decide +kernel
  have hF1 : ∀ w ∈ wsX10, w ∈ wsX1_harvest := by decide +kernel
  have lf53 := hts (.fieldLink RX1 53 "HarvestLender$Farmer" "hectares" "I") (by decide +kernel)
  have lf83 := hts (.fieldLink RX1 83 "HarvestLender$Crop" "normal" "I") (by decide +kernel)
  have lf41 := hts (.fieldLink RX1 41 "HarvestLender$Farmer" "grain" "I") (by decide +kernel)
  have lf59 := hts (.fieldLink RX1 59 "HarvestLender$Farmer" "yieldPercent" "I") (by decide +kernel)
  have lf50 := hts (.fieldLink RX1 50 "HarvestLender$Farmer" "plantedCrop" "I") (by decide +kernel)
  have lf47 := hts (.fieldLink RX1 47 "HarvestLender$Farmer" "grainCrop" "I") (by decide +kernel)
  have lf56 := hts (.fieldLink RX1 56 "HarvestLender$Farmer" "coverPercent" "I") (by decide +kernel)
  have lf88 := hts (.fieldLink RX1 88 "HarvestLender$Crop" "price" "I") (by decide +kernel)
  have lc67 := hts (.constantLong RX1 67 (100)) (by decide +kernel)
  have e1 := mulB hh hn
  have e2 := mulB e1 hy
  have e3 := mulB e1 hpr
  refine lv_aload_n hx hb dX1_harvest_0 rfl (lv_at hl 0 rfl) ?_
  refine k_gF (i := i) (v := .int (iI (σ (9 + i) 13))) hx hb hts hown hF1 hK hP hi 13 (by decide) lf53 dX1_harvest_1 rfl rfl ?_
  refine lv_aload_n hx hb dX1_harvest_4 rfl (lv_at hl 1 rfl) ?_
  refine k_gC (i := c) (v := .int (iI (σ (3 + c) 2))) hx hb hts hown hF0 hK hP hc 2 (by decide) lf83 dX1_harvest_5 rfl rfl ?_
  refine k_imul hx hb dX1_harvest_8 ?_
  refine lv_istore_n (lv' := [(2, .int (iI ((σ (9 + i) 13) * (σ (3 + c) 2)))), (0, .ref (ad (9 + i))), (1, .ref (ad (3 + c)))]) hx hb dX1_harvest_9 rfl hl (by decide) rfl (fun ls hl => ?_)
  refine lv_aload_n hx hb dX1_harvest_10 rfl (lv_at hl 1 rfl) ?_
  refine lv_dup hx hb dX1_harvest_11 rfl ?_
  refine k_gF (i := i) (v := .int (iI (σ (9 + i) 9))) hx hb hts hown hF1 hK hP hi 9 (by decide) lf41 dX1_harvest_12 rfl rfl ?_
  refine lv_iload_n hx hb dX1_harvest_15 rfl (lv_at hl 0 rfl) ?_
  refine lv_aload_n hx hb dX1_harvest_16 rfl (lv_at hl 1 rfl) ?_
  refine k_gF (i := i) (v := .int (iI (σ (9 + i) 15))) hx hb hts hown hF1 hK hP hi 15 (by decide) lf59 dX1_harvest_17 rfl rfl ?_
  refine k_imul hx hb dX1_harvest_20 ?_
  refine k_bipush hx hb dX1_harvest_21 (by decide) ?_
  refine k_idiv hx hb dX1_harvest_23 (by omega) (by omega) (by decide) (by decide) ?_
  refine k_iadd hx hb dX1_harvest_24 ?_
  refine k_pFi (i := i) (v := (σ (9 + i) 9) + ((((σ (9 + i) 13) * (σ (3 + c) 2)) * (σ (9 + i) 15)) / 100)) hx hb hts hown hF1 hI hAc hK hP hS hi 9 rfl (by decide) lf41 dX1_harvest_25 rfl rfl (by decide +kernel) (fun H locs hP hS => ?_)
  refine lv_aload_n hx hb dX1_harvest_28 rfl (lv_at hl 1 rfl) ?_
  refine lv_aload_n hx hb dX1_harvest_29 rfl (lv_at hl 1 rfl) ?_
  refine k_gF (i := i) (v := .int (iI (σ (9 + i) 12))) hx hb hts hown hF1 hK hP hi 12 (by decide) lf50 dX1_harvest_30 rfl (congrArg (fun z => some (Value.int (iI z))) (by simp [up] : (up σ (9 + i) 9 ((σ (9 + i) 9) + ((((σ (9 + i) 13) * (σ (3 + c) 2)) * (σ (9 + i) 15)) / 100))) (9 + i) 12 = σ (9 + i) 12)) ?_
  refine k_pFi (i := i) (v := σ (9 + i) 12) hx hb hts hown hF1 hI hAc hK hP hS hi 11 rfl (by decide) lf47 dX1_harvest_33 rfl rfl (by decide +kernel) (fun H locs hP hS => ?_)
  refine lv_aload_n hx hb dX1_harvest_36 rfl (lv_at hl 1 rfl) ?_
  refine k_gF (i := i) (v := .int (iI (σ (9 + i) 15))) hx hb hts hown hF1 hK hP hi 15 (by decide) lf59 dX1_harvest_37 rfl (congrArg (fun z => some (Value.int (iI z))) (by simp [up] : (up (up σ (9 + i) 9 ((σ (9 + i) 9) + ((((σ (9 + i) 13) * (σ (3 + c) 2)) * (σ (9 + i) 15)) / 100))) (9 + i) 11 (σ (9 + i) 12)) (9 + i) 15 = σ (9 + i) 15)) ?_
  refine lv_aload_n hx hb dX1_harvest_40 rfl (lv_at hl 1 rfl) ?_
  refine k_gF (i := i) (v := .int (iI (σ (9 + i) 14))) hx hb hts hown hF1 hK hP hi 14 (by decide) lf56 dX1_harvest_41 rfl (congrArg (fun z => some (Value.int (iI z))) (by simp [up] : (up (up σ (9 + i) 9 ((σ (9 + i) 9) + ((((σ (9 + i) 13) * (σ (3 + c) 2)) * (σ (9 + i) 15)) / 100))) (9 + i) 11 (σ (9 + i) 12)) (9 + i) 14 = σ (9 + i) 14)) ?_
  refine k_icmp_ge (tgt := 77) hx hb dX1_harvest_44 (by decide) (by omega) (by omega) (fun c_1 => ?_) (fun c_1 => ?_)
  · have eF : up (up σ (9 + i) 9 ((σ (9 + i) 9) + ((((σ (9 + i) 13) * (σ (3 + c) 2)) * (σ (9 + i) 15)) / 100))) (9 + i) 11 (σ (9 + i) 12) = fHarvest σ i c := by first | rfl | (simp only [fHarvest, fHarvest0, up_s]; done) | (simp only [fHarvest, fHarvest0, up_s]; repeat' split) <;> first | rfl | (exfalso; omega) | omega
    rw [eF] at hP
    exact W.vret hx hb hr (fun t ht hW => ⟨⟨_, rfl, rfl, by rw [ht]; exact hP, va_K.moved hW.alike hK⟩, hS.F ht⟩) hS.2.2 dX1_harvest_77
  · refine lv_iload_n hx hb dX1_harvest_47 rfl (lv_at hl 0 rfl) ?_
    refine k_i2l hx hb dX1_harvest_48 (by omega) ?_
    refine lv_aload_n hx hb dX1_harvest_49 rfl (lv_at hl 2 rfl) ?_
    refine k_gC (i := c) (v := .int (iI (σ (3 + c) 1))) hx hb hts hown hF0 hK hP hc 1 (by decide) lf88 dX1_harvest_50 rfl (congrArg (fun z => some (Value.int (iI z))) (by simp [up] : (up (up σ (9 + i) 9 ((σ (9 + i) 9) + ((((σ (9 + i) 13) * (σ (3 + c) 2)) * (σ (9 + i) 15)) / 100))) (9 + i) 11 (σ (9 + i) 12)) (3 + c) 1 = σ (3 + c) 1)) ?_
    refine k_i2l hx hb dX1_harvest_53 (by omega) ?_
    refine k_lmul hx hb dX1_harvest_54 ?_
    refine lv_aload_n hx hb dX1_harvest_55 rfl (lv_at hl 1 rfl) ?_
    refine k_gF (i := i) (v := .int (iI (σ (9 + i) 14))) hx hb hts hown hF1 hK hP hi 14 (by decide) lf56 dX1_harvest_56 rfl (congrArg (fun z => some (Value.int (iI z))) (by simp [up] : (up (up σ (9 + i) 9 ((σ (9 + i) 9) + ((((σ (9 + i) 13) * (σ (3 + c) 2)) * (σ (9 + i) 15)) / 100))) (9 + i) 11 (σ (9 + i) 12)) (9 + i) 14 = σ (9 + i) 14)) ?_
    refine lv_aload_n hx hb dX1_harvest_59 rfl (lv_at hl 1 rfl) ?_
    refine k_gF (i := i) (v := .int (iI (σ (9 + i) 15))) hx hb hts hown hF1 hK hP hi 15 (by decide) lf59 dX1_harvest_60 rfl (congrArg (fun z => some (Value.int (iI z))) (by simp [up] : (up (up σ (9 + i) 9 ((σ (9 + i) 9) + ((((σ (9 + i) 13) * (σ (3 + c) 2)) * (σ (9 + i) 15)) / 100))) (9 + i) 11 (σ (9 + i) 12)) (9 + i) 15 = σ (9 + i) 15)) ?_
    refine k_isub hx hb dX1_harvest_63 ?_
    refine k_i2l hx hb dX1_harvest_64 (by omega) ?_
    refine k_lmul hx hb dX1_harvest_65 ?_
    refine lv_lstore_n (lv' := [(3, .long (iL ((((σ (9 + i) 13) * (σ (3 + c) 2)) * (σ (3 + c) 1)) * ((σ (9 + i) 14) - (σ (9 + i) 15))))), (2, .int (iI ((σ (9 + i) 13) * (σ (3 + c) 2)))), (0, .ref (ad (9 + i))), (1, .ref (ad (3 + c)))]) hx hb dX1_harvest_66 rfl hl (by decide) rfl (fun ls hl => ?_)
    refine lv_aload_n hx hb dX1_harvest_67 rfl (lv_at hl 2 rfl) ?_
    refine lv_lload_n hx hb dX1_harvest_68 rfl (lv_at hl 0 rfl) ?_
    refine k_ldc2 hx hb (100) hown lc67 (by decide) dX1_harvest_69 ?_
    refine k_ldiv hx hb dX1_harvest_72 (by have e4 := mulB e3 (⟨by omega, by omega⟩ : 0 ≤ σ (9 + i) 14 - σ (9 + i) 15 ∧ σ (9 + i) 14 - σ (9 + i) 15 ≤ 90); exact e4.1) (by have e4 := mulB e3 (⟨by omega, by omega⟩ : 0 ≤ σ (9 + i) 14 - σ (9 + i) 15 ∧ σ (9 + i) 14 - σ (9 + i) 15 ≤ 90); omega) (by decide) (by decide) ?_
    refine k_iconst hx hb dX1_harvest_73 ?_
    refine k_cv (As := [.long (iL (((((σ (9 + i) 13) * (σ (3 + c) 2)) * (σ (3 + c) 1)) * ((σ (9 + i) 14) - (σ (9 + i) 15))) / 100)), .int (iI 1)]) (rest := []) ⟨hx, hb, hml, hown, hts⟩ (c_receive l G ad cy hI (up (up σ (9 + i) 9 ((σ (9 + i) 9) + ((((σ (9 + i) 13) * (σ (3 + c) 2)) * (σ (9 + i) 15)) / 100))) (9 + i) 11 (σ (9 + i) 12)) i hi (((((σ (9 + i) 13) * (σ (3 + c) 2)) * (σ (3 + c) 1)) * ((σ (9 + i) 14) - (σ (9 + i) 15))) / 100) 1 (by decide) (div_lB (by have e4 := mulB e3 (⟨by omega, by omega⟩ : 0 ≤ σ (9 + i) 14 - σ (9 + i) 15 ∧ σ (9 + i) 14 - σ (9 + i) 15 ≤ 90); exact e4.1) (by have e4 := mulB e3 (⟨by omega, by omega⟩ : 0 ≤ σ (9 + i) 14 - σ (9 + i) 15 ∧ σ (9 + i) 14 - σ (9 + i) 15 ≤ 90); omega) (by decide)) (by simp [up]; omega)) (cwV 2 hts gX1_harvest_X1_receive rfl rfl rfl (by decide +kernel) ⟨Nat.le_of_ble_eq_true rfl, Nat.le_of_ble_eq_true rfl⟩) (cRecvF hK hP hi) hAc hA hK hP hS rfl hl.1 rfl (Nat.le_of_ble_eq_true rfl) dX1_harvest_74 ⟨Nat.zero_le _, Nat.zero_le _⟩ (fun H locs hP hS => ?_)
    have eF : fReceive (up (up σ (9 + i) 9 ((σ (9 + i) 9) + ((((σ (9 + i) 13) * (σ (3 + c) 2)) * (σ (9 + i) 15)) / 100))) (9 + i) 11 (σ (9 + i) 12)) i (((((σ (9 + i) 13) * (σ (3 + c) 2)) * (σ (3 + c) 1)) * ((σ (9 + i) 14) - (σ (9 + i) 15))) / 100) 1 = fHarvest σ i c := by first | rfl | (simp only [fHarvest, fHarvest0, up_s]; done) | (simp only [fHarvest, fHarvest0, up_s]; repeat' split) <;> first | rfl | (exfalso; omega) | omega
    rw [eF] at hP
    exact W.vret hx hb hr (fun t ht hW => ⟨⟨_, rfl, rfl, by rw [ht]; exact hP, va_K.moved hW.alike hK⟩, hS.F ht⟩) hS.2.2 dX1_harvest_77
set_option maxHeartbeats 4000000 in
set_option maxRecDepth 100000 in
theorem c_pledgeU (l : Launch) (G : va_G) (ad : Nat → Nat) (cy : Nat → ClassId) (hI : cI ad) (σ : Sg) (i : Nat) (hi : i < 8) (u pr : Int) (hu : 0 ≤ u ∧ u ≤ 1000000) (hpr : 0 ≤ pr ∧ pr ≤ 5000) (h2 : nB (σ (9 + i) 2)) : cMl l yX1_pledgeUnits wsX1_pledgeUnits ({ frames := 2, cells := 0, slots := 0, locals := 48 } : Room) G ad cy [.ref (ad (9 + i)), .int (iI u), .int (iI pr)] σ (u * pr * 60 / 100) (fPledge σ i u pr) := by
  intro sz
  refine Met.ofW (cc := cX1_pledgeUnits) (maxL := 5) (ret := (some .long)) (by decide) rfl ?_
  intro p e s m args below meth cd s₁ B hml hv
  obtain ⟨rfl, hsz, hP, hK⟩ := hv
  have hx := B.exec
  have hb := B.bytes
  have hr := B.returns
  have hts := atoms_spec (ws := wsX1_pledgeUnits) B.pre
  have hown : s.vm.findClass RX1 = some m.cls := findClass_of_methodNamed B.named
  have hlocks := B.notSynchronized
  subst hsz
  have hS : va_S (cA ad s.heap.size) s.heap s.heap [] := va_S.rf
  have hA : ∀ q, s.heap.size ≤ q → cA ad s.heap.size q := fun _ h => Or.inr h
  have hAc : ∀ j, j < 33 → cA ad s.heap.size (ad j) := fun j h => Or.inl ⟨j, h, rfl⟩
  have hl := lv_entry ([.ref (ad (9 + i)), .int (iI u), .int (iI pr)]) (n := 5) (Nat.le_of_ble_eq_true rfl)
  rw [lg_entry_eq]
  generalize (lg_sl ([.ref (ad (9 + i)), .int (iI u), .int (iI pr)]) ++ List.replicate (5 - (lg_sl ([.ref (ad (9 + i)), .int (iI u), .int (iI pr)])).length) Slot.unset).toArray = ls at hl ⊢
  have hl : lv_has ls 5 [(0, .ref (ad (9 + i))), (1, .int (iI u)), (2, .int (iI pr))] := hl
  have hF1 : ∀ w ∈ wsX10, w ∈ wsX1_pledgeUnits := by decide +kernel
  have lc94 := hts (.constantLong RX1 94 (60)) (by decide +kernel)
  have lc67 := hts (.constantLong RX1 67 (100)) (by decide +kernel)
  have lf44 := hts (.fieldLink RX1 44 "HarvestLender$Farmer" "pledgedGrain" "I") (by decide +kernel)
  have lf22 := hts (.fieldLink RX1 22 "HarvestLender$Farmer" "pledgeDebt" "J") (by decide +kernel)
  have e1 := mulB hu hpr
  refine lv_iload_n hx hb dX1_pledgeUnits_0 rfl (lv_at hl 1 rfl) ?_
  refine k_i2l hx hb dX1_pledgeUnits_1 (by omega) ?_
  refine lv_iload_n hx hb dX1_pledgeUnits_2 rfl (lv_at hl 2 rfl) ?_
  refine k_i2l hx hb dX1_pledgeUnits_3 (by omega) ?_
  refine k_lmul hx hb dX1_pledgeUnits_4 ?_
  refine k_ldc2 hx hb (60) hown lc94 (by decide) dX1_pledgeUnits_5 ?_
  refine k_lmul hx hb dX1_pledgeUnits_8 ?_
  refine k_ldc2 hx hb (100) hown lc67 (by decide) dX1_pledgeUnits_9 ?_
  refine k_ldiv hx hb dX1_pledgeUnits_12 (by omega) (by omega) (by decide) (by decide) ?_
  refine lv_lstore_n (lv' := [(3, .long (iL (((u * pr) * 60) / 100))), (0, .ref (ad (9 + i))), (1, .int (iI u)), (2, .int (iI pr))]) hx hb dX1_pledgeUnits_13 rfl hl (by decide) rfl (fun ls hl => ?_)
  refine lv_aload_n hx hb dX1_pledgeUnits_14 rfl (lv_at hl 1 rfl) ?_
  refine lv_dup hx hb dX1_pledgeUnits_15 rfl ?_
  refine k_gF (i := i) (v := .int (iI (σ (9 + i) 10))) hx hb hts hown hF1 hK hP hi 10 (by decide) lf44 dX1_pledgeUnits_16 rfl rfl ?_
  refine lv_iload_n hx hb dX1_pledgeUnits_19 rfl (lv_at hl 2 rfl) ?_
  refine k_iadd hx hb dX1_pledgeUnits_20 ?_
  refine k_pFi (i := i) (v := (σ (9 + i) 10) + u) hx hb hts hown hF1 hI hAc hK hP hS hi 10 rfl (by decide) lf44 dX1_pledgeUnits_21 rfl rfl (by decide +kernel) (fun H locs hP hS => ?_)
  refine lv_aload_n hx hb dX1_pledgeUnits_24 rfl (lv_at hl 1 rfl) ?_
  refine lv_dup hx hb dX1_pledgeUnits_25 rfl ?_
  refine k_gF (i := i) (v := .long (iL (σ (9 + i) 3))) hx hb hts hown hF1 hK hP hi 3 (by decide) lf22 dX1_pledgeUnits_26 rfl (congrArg (fun z => some (Value.long (iL z))) (by simp [up] : (up σ (9 + i) 10 ((σ (9 + i) 10) + u)) (9 + i) 3 = σ (9 + i) 3)) ?_
  refine lv_lload_n hx hb dX1_pledgeUnits_29 rfl (lv_at hl 0 rfl) ?_
  refine k_ladd hx hb dX1_pledgeUnits_30 ?_
  refine k_pFl (i := i) (v := (σ (9 + i) 3) + (((u * pr) * 60) / 100)) hx hb hts hown hF1 hI hAc hK hP hS hi 3 rfl (by decide) lf22 dX1_pledgeUnits_31 rfl rfl (by decide +kernel) (fun H locs hP hS => ?_)
  refine lv_aload_n hx hb dX1_pledgeUnits_34 rfl (lv_at hl 1 rfl) ?_
  refine lv_lload_n hx hb dX1_pledgeUnits_35 rfl (lv_at hl 0 rfl) ?_
  refine k_iconst hx hb dX1_pledgeUnits_36 ?_
  refine k_cv (As := [.long (iL (((u * pr) * 60) / 100)), .int (iI 2)]) (rest := []) ⟨hx, hb, hml, hown, hts⟩ (c_receive l G ad cy hI (up (up σ (9 + i) 10 ((σ (9 + i) 10) + u)) (9 + i) 3 ((σ (9 + i) 3) + (((u * pr) * 60) / 100))) i hi (((u * pr) * 60) / 100) 2 (by decide) (by omega) (by simp [up]; omega)) (cwV 2 hts gX1_pledgeUnits_X1_receive rfl rfl rfl (by decide +kernel) ⟨Nat.le_of_ble_eq_true rfl, Nat.le_of_ble_eq_true rfl⟩) (cRecvF hK hP hi) hAc hA hK hP hS rfl hl.1 rfl (Nat.le_of_ble_eq_true rfl) dX1_pledgeUnits_37 ⟨Nat.zero_le _, Nat.zero_le _⟩ (fun H locs hP hS => ?_)
  refine lv_lload_n hx hb dX1_pledgeUnits_40 rfl (lv_at hl 0 rfl) ?_
  have eF : fReceive (up (up σ (9 + i) 10 ((σ (9 + i) 10) + u)) (9 + i) 3 ((σ (9 + i) 3) + (((u * pr) * 60) / 100))) i (((u * pr) * 60) / 100) 2 = fPledge σ i u pr := by first | rfl | (simp only [fPledge, up_s]; done) | (simp only [fPledge, up_s]; repeat' split) <;> first | rfl | (exfalso; omega) | omega
  rw [eF] at hP
  have eR : ((u * pr) * 60) / 100 = u * pr * 60 / 100 := by first | rfl | (simp only [fPledge, up_s]; done) | (simp only [fPledge, up_s]; repeat' split) <;> first | rfl | (exfalso; omega) | omega
  exact W.lret hx hb hr (fun t ht hW => ⟨⟨_, _, rfl, ⟨by rw [eR], rfl⟩, by rw [ht]; exact hP, va_K.moved hW.alike hK⟩, hS.F ht⟩) hS.2.2 dX1_pledgeUnits_41
set_option maxHeartbeats 4000000 in
set_option maxRecDepth 100000 in
theorem c_sellU (l : Launch) (G : va_G) (ad : Nat → Nat) (cy : Nat → ClassId) (hI : cI ad) (σ : Sg) (i : Nat) (hi : i < 8) (u pr : Int) (hu : 0 ≤ u ∧ u ≤ 1000000) (hpr : 0 ≤ pr ∧ pr ≤ 5000) (h2 : nB (σ (9 + i) 2)) (h3 : 0 ≤ σ (9 + i) 3 ∧ σ (9 + i) 3 ≤ 2147483647) (hg : 0 ≤ σ (9 + i) 10 ∧ σ (9 + i) 10 ≤ σ (9 + i) 9 ∧ σ (9 + i) 9 ≤ 1000000) : cMl l yX1_sellUnits wsX1_sellUnits ({ frames := 2, cells := 0, slots := 0, locals := 48 } : Room) G ad cy [.ref (ad (9 + i)), .int (iI u), .int (iI pr)] σ (u * pr) (fSell σ i u pr) := by
  intro sz
  refine Met.ofW (cc := cX1_sellUnits) (maxL := 9) (ret := (some .long)) (by decide) rfl ?_
  intro p e s m args below meth cd s₁ B hml hv
  obtain ⟨rfl, hsz, hP, hK⟩ := hv
  have hx := B.exec
  have hb := B.bytes
  have hr := B.returns
  have hts := atoms_spec (ws := wsX1_sellUnits) B.pre
  have hown : s.vm.findClass RX1 = some m.cls := findClass_of_methodNamed B.named
  have hlocks := B.notSynchronized
  subst hsz
  have hS : va_S (cA ad s.heap.size) s.heap s.heap [] := va_S.rf
  have hA : ∀ q, s.heap.size ≤ q → cA ad s.heap.size q := fun _ h => Or.inr h
  have hAc : ∀ j, j < 33 → cA ad s.heap.size (ad j) := fun j h => Or.inl ⟨j, h, rfl⟩
  have hl := lv_entry ([.ref (ad (9 + i)), .int (iI u), .int (iI pr)]) (n := 9) (Nat.le_of_ble_eq_true rfl)
  rw [lg_entry_eq]
  generalize (lg_sl ([.ref (ad (9 + i)), .int (iI u), .int (iI pr)]) ++ List.replicate (9 - (lg_sl ([.ref (ad (9 + i)), .int (iI u), .int (iI pr)])).length) Slot.unset).toArray = ls at hl ⊢
  have hl : lv_has ls 9 [(0, .ref (ad (9 + i))), (1, .int (iI u)), (2, .int (iI pr))] := hl
  have hF1 : ∀ w ∈ wsX10, w ∈ wsX1_sellUnits := by decide +kernel
  have lm100 := hts (.methodLink RX1 100 Lib.Math.min.name) (by decide +kernel)
  have lms100 := hts (.static Lib.Math.min.name) (by decide +kernel)
  have lmi := hts (.initialized "java/lang/Math") (by decide +kernel)
  have lmc100 := hts (.code Lib.Math.min.name Lib.Math.min.code 2 (some .int)) (by decide +kernel)
  have lf22 := hts (.fieldLink RX1 22 "HarvestLender$Farmer" "pledgeDebt" "J") (by decide +kernel)
  have lm73 := hts (.methodLink RX1 73 Lib.MathLoose.min_long.x) (by decide +kernel)
  have lms73 := hts (.static Lib.MathLoose.min_long.x) (by decide +kernel)
  have lmc73 := hts (.code Lib.MathLoose.min_long.x Lib.MathLoose.min_long.code 4 (some .long)) (by decide +kernel)
  have lf41 := hts (.fieldLink RX1 41 "HarvestLender$Farmer" "grain" "I") (by decide +kernel)
  have lf44 := hts (.fieldLink RX1 44 "HarvestLender$Farmer" "pledgedGrain" "I") (by decide +kernel)
  have m1 := mn_le1 u (σ (9 + i) 9 - σ (9 + i) 10)
  have m2 := mn_le2 u (σ (9 + i) 9 - σ (9 + i) 10)
  have m3 := mn_ge u (σ (9 + i) 9 - σ (9 + i) 10) 0 (by omega) (by omega)
  have e1 := mulB (⟨m3, by omega⟩ : 0 ≤ mn u (σ (9 + i) 9 - σ (9 + i) 10) ∧ mn u (σ (9 + i) 9 - σ (9 + i) 10) ≤ 1000000) hpr
  have e2 := mulB (⟨by omega, by omega⟩ : 0 ≤ u - mn u (σ (9 + i) 9 - σ (9 + i) 10) ∧ u - mn u (σ (9 + i) 9 - σ (9 + i) 10) ≤ 1000000) hpr
  have m4 := mn_le1 ((u - mn u (σ (9 + i) 9 - σ (9 + i) 10)) * pr) (σ (9 + i) 3)
  have m5 := mn_ge ((u - mn u (σ (9 + i) 9 - σ (9 + i) 10)) * pr) (σ (9 + i) 3) 0 (by omega) (by omega)
  refine lv_iload_n hx hb dX1_sellUnits_0 rfl (lv_at hl 1 rfl) ?_
  refine lv_aload_n hx hb dX1_sellUnits_1 rfl (lv_at hl 0 rfl) ?_
  refine k_ci (As := []) (rest := [.int (iI u)]) ⟨hx, hb, hml, hown, hts⟩ (c_freeGrain l G ad cy hI σ i hi) (cwV 0 hts gX1_sellUnits_X1_freeGrain rfl rfl rfl (by decide +kernel) ⟨Nat.le_of_ble_eq_true rfl, Nat.le_of_ble_eq_true rfl⟩) (cRecvF hK hP hi) hAc hA hK hP hS rfl hl.1 rfl (Nat.le_of_ble_eq_true rfl) dX1_sellUnits_2 ⟨Nat.zero_le _, Nat.zero_le _⟩ (fun H locs hP hS => ?_)
  refine k_mmini hx hb (hml.trans hl.1.symm) hown lm100 lms100 lmi lmc100 (Nat.le_of_ble_eq_true rfl) (Nat.le_of_ble_eq_true rfl) (Nat.zero_le _) (Nat.zero_le _) (by omega) (by omega) dX1_sellUnits_5 ?_
  refine lv_istore_n (lv' := [(3, .int (iI (mn u (σ (9 + i) 9 - σ (9 + i) 10)))), (0, .ref (ad (9 + i))), (1, .int (iI u)), (2, .int (iI pr))]) hx hb dX1_sellUnits_8 rfl hl (by decide) rfl (fun ls hl => ?_)
  refine lv_iload_n hx hb dX1_sellUnits_9 rfl (lv_at hl 2 rfl) ?_
  refine lv_iload_n hx hb dX1_sellUnits_10 rfl (lv_at hl 0 rfl) ?_
  refine k_isub hx hb dX1_sellUnits_11 ?_
  refine lv_istore (lv' := [(4, .int (iI (u - (mn u (σ (9 + i) 9 - σ (9 + i) 10))))), (3, .int (iI (mn u (σ (9 + i) 9 - σ (9 + i) 10)))), (0, .ref (ad (9 + i))), (1, .int (iI u)), (2, .int (iI pr))]) hx hb dX1_sellUnits_12 hl (by decide) rfl (fun ls hl => ?_)
  refine lv_iload hx hb dX1_sellUnits_14 (lv_at hl 0 rfl) ?_
  refine k_i2l hx hb dX1_sellUnits_16 (by omega) ?_
  refine lv_iload_n hx hb dX1_sellUnits_17 rfl (lv_at hl 4 rfl) ?_
  refine k_i2l hx hb dX1_sellUnits_18 (by omega) ?_
  refine k_lmul hx hb dX1_sellUnits_19 ?_
  refine lv_lstore (lv' := [(5, .long (iL ((u - (mn u (σ (9 + i) 9 - σ (9 + i) 10))) * pr))), (4, .int (iI (u - (mn u (σ (9 + i) 9 - σ (9 + i) 10))))), (3, .int (iI (mn u (σ (9 + i) 9 - σ (9 + i) 10)))), (0, .ref (ad (9 + i))), (1, .int (iI u)), (2, .int (iI pr))]) hx hb dX1_sellUnits_20 hl (by decide) rfl (fun ls hl => ?_)
  refine lv_lload hx hb dX1_sellUnits_22 (lv_at hl 0 rfl) ?_
  refine lv_aload_n hx hb dX1_sellUnits_24 rfl (lv_at hl 3 rfl) ?_
  refine k_gF (i := i) (v := .long (iL (σ (9 + i) 3))) hx hb hts hown hF1 hK hP hi 3 (by decide) lf22 dX1_sellUnits_25 rfl rfl ?_
  refine k_mminl hx hb (hml.trans hl.1.symm) hown lm73 lms73 lmi lmc73 (Nat.le_of_ble_eq_true rfl) (Nat.le_of_ble_eq_true rfl) (Nat.zero_le _) (Nat.zero_le _) (by omega) (by omega) dX1_sellUnits_28 ?_
  refine lv_lstore (lv' := [(7, .long (iL (mn ((u - (mn u (σ (9 + i) 9 - σ (9 + i) 10))) * pr) (σ (9 + i) 3)))), (5, .long (iL ((u - (mn u (σ (9 + i) 9 - σ (9 + i) 10))) * pr))), (4, .int (iI (u - (mn u (σ (9 + i) 9 - σ (9 + i) 10))))), (3, .int (iI (mn u (σ (9 + i) 9 - σ (9 + i) 10)))), (0, .ref (ad (9 + i))), (1, .int (iI u)), (2, .int (iI pr))]) hx hb dX1_sellUnits_31 hl (by decide) rfl (fun ls hl => ?_)
  refine lv_aload_n hx hb dX1_sellUnits_33 rfl (lv_at hl 4 rfl) ?_
  refine lv_dup hx hb dX1_sellUnits_34 rfl ?_
  refine k_gF (i := i) (v := .int (iI (σ (9 + i) 9))) hx hb hts hown hF1 hK hP hi 9 (by decide) lf41 dX1_sellUnits_35 rfl rfl ?_
  refine lv_iload_n hx hb dX1_sellUnits_38 rfl (lv_at hl 5 rfl) ?_
  refine k_isub hx hb dX1_sellUnits_39 ?_
  refine k_pFi (i := i) (v := (σ (9 + i) 9) - u) hx hb hts hown hF1 hI hAc hK hP hS hi 9 rfl (by decide) lf41 dX1_sellUnits_40 rfl rfl (by decide +kernel) (fun H locs hP hS => ?_)
  refine lv_aload_n hx hb dX1_sellUnits_43 rfl (lv_at hl 4 rfl) ?_
  refine lv_dup hx hb dX1_sellUnits_44 rfl ?_
  refine k_gF (i := i) (v := .int (iI (σ (9 + i) 10))) hx hb hts hown hF1 hK hP hi 10 (by decide) lf44 dX1_sellUnits_45 rfl (congrArg (fun z => some (Value.int (iI z))) (by simp [up] : (up σ (9 + i) 9 ((σ (9 + i) 9) - u)) (9 + i) 10 = σ (9 + i) 10)) ?_
  refine lv_iload hx hb dX1_sellUnits_48 (lv_at hl 2 rfl) ?_
  refine k_isub hx hb dX1_sellUnits_50 ?_
  refine k_pFi (i := i) (v := (σ (9 + i) 10) - (u - (mn u (σ (9 + i) 9 - σ (9 + i) 10)))) hx hb hts hown hF1 hI hAc hK hP hS hi 10 rfl (by decide) lf44 dX1_sellUnits_51 rfl rfl (by decide +kernel) (fun H locs hP hS => ?_)
  refine lv_aload_n hx hb dX1_sellUnits_54 rfl (lv_at hl 4 rfl) ?_
  refine lv_dup hx hb dX1_sellUnits_55 rfl ?_
  refine k_gF (i := i) (v := .long (iL (σ (9 + i) 3))) hx hb hts hown hF1 hK hP hi 3 (by decide) lf22 dX1_sellUnits_56 rfl (congrArg (fun z => some (Value.long (iL z))) (by simp [up] : (up (up σ (9 + i) 9 ((σ (9 + i) 9) - u)) (9 + i) 10 ((σ (9 + i) 10) - (u - (mn u (σ (9 + i) 9 - σ (9 + i) 10))))) (9 + i) 3 = σ (9 + i) 3)) ?_
  refine lv_lload hx hb dX1_sellUnits_59 (lv_at hl 0 rfl) ?_
  refine k_lsub hx hb dX1_sellUnits_61 ?_
  refine k_pFl (i := i) (v := (σ (9 + i) 3) - (mn ((u - (mn u (σ (9 + i) 9 - σ (9 + i) 10))) * pr) (σ (9 + i) 3))) hx hb hts hown hF1 hI hAc hK hP hS hi 3 rfl (by decide) lf22 dX1_sellUnits_62 rfl rfl (by decide +kernel) (fun H locs hP hS => ?_)
  refine lv_aload_n hx hb dX1_sellUnits_65 rfl (lv_at hl 4 rfl) ?_
  refine lv_iload_n hx hb dX1_sellUnits_66 rfl (lv_at hl 3 rfl) ?_
  refine k_i2l hx hb dX1_sellUnits_67 (by omega) ?_
  refine lv_iload_n hx hb dX1_sellUnits_68 rfl (lv_at hl 6 rfl) ?_
  refine k_i2l hx hb dX1_sellUnits_69 (by omega) ?_
  refine k_lmul hx hb dX1_sellUnits_70 ?_
  refine lv_lload hx hb dX1_sellUnits_71 (lv_at hl 1 rfl) ?_
  refine k_ladd hx hb dX1_sellUnits_73 ?_
  refine lv_lload hx hb dX1_sellUnits_74 (lv_at hl 0 rfl) ?_
  refine k_lsub hx hb dX1_sellUnits_76 ?_
  refine k_iconst hx hb dX1_sellUnits_77 ?_
  refine k_cv (As := [.long (iL ((((mn u (σ (9 + i) 9 - σ (9 + i) 10)) * pr) + ((u - (mn u (σ (9 + i) 9 - σ (9 + i) 10))) * pr)) - (mn ((u - (mn u (σ (9 + i) 9 - σ (9 + i) 10))) * pr) (σ (9 + i) 3)))), .int (iI 3)]) (rest := []) ⟨hx, hb, hml, hown, hts⟩ (c_receive l G ad cy hI (up (up (up σ (9 + i) 9 ((σ (9 + i) 9) - u)) (9 + i) 10 ((σ (9 + i) 10) - (u - (mn u (σ (9 + i) 9 - σ (9 + i) 10))))) (9 + i) 3 ((σ (9 + i) 3) - (mn ((u - (mn u (σ (9 + i) 9 - σ (9 + i) 10))) * pr) (σ (9 + i) 3)))) i hi ((((mn u (σ (9 + i) 9 - σ (9 + i) 10)) * pr) + ((u - (mn u (σ (9 + i) 9 - σ (9 + i) 10))) * pr)) - (mn ((u - (mn u (σ (9 + i) 9 - σ (9 + i) 10))) * pr) (σ (9 + i) 3))) 3 (by decide) (by omega) (by simp [up]; omega)) (cwV 2 hts gX1_sellUnits_X1_receive rfl rfl rfl (by decide +kernel) ⟨Nat.le_of_ble_eq_true rfl, Nat.le_of_ble_eq_true rfl⟩) (cRecvF hK hP hi) hAc hA hK hP hS rfl hl.1 rfl (Nat.le_of_ble_eq_true rfl) dX1_sellUnits_78 ⟨Nat.zero_le _, Nat.zero_le _⟩ (fun H locs hP hS => ?_)
  refine lv_aload_n hx hb dX1_sellUnits_81 rfl (lv_at hl 4 rfl) ?_
  refine k_gF (i := i) (v := .int (iI ((σ (9 + i) 10) - (u - (mn u (σ (9 + i) 9 - σ (9 + i) 10)))))) hx hb hts hown hF1 hK hP hi 10 (by decide) lf44 dX1_sellUnits_82 rfl (congrArg (fun z => some (Value.int (iI z))) (by simp [fLower, fReceive, up] : (fReceive (up (up (up σ (9 + i) 9 ((σ (9 + i) 9) - u)) (9 + i) 10 ((σ (9 + i) 10) - (u - (mn u (σ (9 + i) 9 - σ (9 + i) 10))))) (9 + i) 3 ((σ (9 + i) 3) - (mn ((u - (mn u (σ (9 + i) 9 - σ (9 + i) 10))) * pr) (σ (9 + i) 3)))) i ((((mn u (σ (9 + i) 9 - σ (9 + i) 10)) * pr) + ((u - (mn u (σ (9 + i) 9 - σ (9 + i) 10))) * pr)) - (mn ((u - (mn u (σ (9 + i) 9 - σ (9 + i) 10))) * pr) (σ (9 + i) 3))) 3) (9 + i) 10 = (σ (9 + i) 10) - (u - (mn u (σ (9 + i) 9 - σ (9 + i) 10))))) ?_
  refine k_if_ne (tgt := 92) hx hb dX1_sellUnits_85 (by decide) (by omega) (fun c_1 => ?_) (fun c_1 => ?_)
  · refine lv_iload_n hx hb dX1_sellUnits_92 rfl (lv_at hl 5 rfl) ?_
    refine k_i2l hx hb dX1_sellUnits_93 (by omega) ?_
    refine lv_iload_n hx hb dX1_sellUnits_94 rfl (lv_at hl 6 rfl) ?_
    refine k_i2l hx hb dX1_sellUnits_95 (by omega) ?_
    refine k_lmul hx hb dX1_sellUnits_96 ?_
    have eF : fReceive (up (up (up σ (9 + i) 9 ((σ (9 + i) 9) - u)) (9 + i) 10 ((σ (9 + i) 10) - (u - (mn u (σ (9 + i) 9 - σ (9 + i) 10))))) (9 + i) 3 ((σ (9 + i) 3) - (mn ((u - (mn u (σ (9 + i) 9 - σ (9 + i) 10))) * pr) (σ (9 + i) 3)))) i ((((mn u (σ (9 + i) 9 - σ (9 + i) 10)) * pr) + ((u - (mn u (σ (9 + i) 9 - σ (9 + i) 10))) * pr)) - (mn ((u - (mn u (σ (9 + i) 9 - σ (9 + i) 10))) * pr) (σ (9 + i) 3))) 3 = fSell σ i u pr := by first | (unfold fSell; rw [if_neg (by unfold fFree; omega)]; rfl) | (unfold fSell; rw [if_pos (by unfold fFree; omega)]; rfl)
    rw [eF] at hP
    have eR : u * pr = u * pr := by rfl
    exact W.lret hx hb hr (fun t ht hW => ⟨⟨_, _, rfl, ⟨by rw [eR], rfl⟩, by rw [ht]; exact hP, va_K.moved hW.alike hK⟩, hS.F ht⟩) hS.2.2 dX1_sellUnits_97
  · refine lv_aload_n hx hb dX1_sellUnits_88 rfl (lv_at hl 4 rfl) ?_
    refine k_cv (As := []) (rest := []) ⟨hx, hb, hml, hown, hts⟩ (c_move l G ad cy hI (fReceive (up (up (up σ (9 + i) 9 ((σ (9 + i) 9) - u)) (9 + i) 10 ((σ (9 + i) 10) - (u - (mn u (σ (9 + i) 9 - σ (9 + i) 10))))) (9 + i) 3 ((σ (9 + i) 3) - (mn ((u - (mn u (σ (9 + i) 9 - σ (9 + i) 10))) * pr) (σ (9 + i) 3)))) i ((((mn u (σ (9 + i) 9 - σ (9 + i) 10)) * pr) + ((u - (mn u (σ (9 + i) 9 - σ (9 + i) 10))) * pr)) - (mn ((u - (mn u (σ (9 + i) 9 - σ (9 + i) 10))) * pr) (σ (9 + i) 3))) 3) i hi) (cwV 0 hts gX1_sellUnits_X1_moveRestOfPledgeDebt rfl rfl rfl (by decide +kernel) ⟨Nat.le_of_ble_eq_true rfl, Nat.le_of_ble_eq_true rfl⟩) (cRecvF hK hP hi) hAc hA hK hP hS rfl hl.1 rfl (Nat.le_of_ble_eq_true rfl) dX1_sellUnits_89 ⟨Nat.zero_le _, Nat.zero_le _⟩ (fun H locs hP hS => ?_)
    refine lv_iload_n hx hb dX1_sellUnits_92 rfl (lv_at hl 5 rfl) ?_
    refine k_i2l hx hb dX1_sellUnits_93 (by omega) ?_
    refine lv_iload_n hx hb dX1_sellUnits_94 rfl (lv_at hl 6 rfl) ?_
    refine k_i2l hx hb dX1_sellUnits_95 (by omega) ?_
    refine k_lmul hx hb dX1_sellUnits_96 ?_
    have eF : fMove (fReceive (up (up (up σ (9 + i) 9 ((σ (9 + i) 9) - u)) (9 + i) 10 ((σ (9 + i) 10) - (u - (mn u (σ (9 + i) 9 - σ (9 + i) 10))))) (9 + i) 3 ((σ (9 + i) 3) - (mn ((u - (mn u (σ (9 + i) 9 - σ (9 + i) 10))) * pr) (σ (9 + i) 3)))) i ((((mn u (σ (9 + i) 9 - σ (9 + i) 10)) * pr) + ((u - (mn u (σ (9 + i) 9 - σ (9 + i) 10))) * pr)) - (mn ((u - (mn u (σ (9 + i) 9 - σ (9 + i) 10))) * pr) (σ (9 + i) 3))) 3) i = fSell σ i u pr := by first | (unfold fSell; rw [if_neg (by unfold fFree; omega)]; rfl) | (unfold fSell; rw [if_pos (by unfold fFree; omega)]; rfl)
    rw [eF] at hP
    have eR : u * pr = u * pr := by rfl
    exact W.lret hx hb hr (fun t ht hW => ⟨⟨_, _, rfl, ⟨by rw [eR], rfl⟩, by rw [ht]; exact hP, va_K.moved hW.alike hK⟩, hS.F ht⟩) hS.2.2 dX1_sellUnits_97
set_option maxHeartbeats 4000000 in
set_option maxRecDepth 100000 in
theorem c_settle (l : Launch) (G : va_G) (ad : Nat → Nat) (cy : Nat → ClassId) (hI : cI ad) (σ : Sg) (i : Nat) (hi : i < 8) (h8 : 0 ≤ σ (9 + i) 8 ∧ σ (9 + i) 8 ≤ 3) (h1 : nB (σ (9 + i) 1)) (h2 : lB (σ (9 + i) 2 + fTakeV (up σ (9 + i) 5 0) i)) : cMv l yX1_settleFromPurse wsX1_settleFromPurse ({ frames := 2, cells := 0, slots := 0, locals := 45 } : Room) G ad cy [.ref (ad (9 + i))] σ (fSettle σ i) := by
  intro sz
  refine Met.ofW (cc := cX1_settleFromPurse) (maxL := 1) (ret := none) (by decide) rfl ?_
  intro p e s m args below meth cd s₁ B hml hv
  obtain ⟨rfl, hsz, hP, hK⟩ := hv
  have hx := B.exec
  have hb := B.bytes
  have hr := B.returns
  have hts := atoms_spec (ws := wsX1_settleFromPurse) B.pre
  have hown : s.vm.findClass RX1 = some m.cls := findClass_of_methodNamed B.named
  have hlocks := B.notSynchronized
  subst hsz
  have hS : va_S (cA ad s.heap.size) s.heap s.heap [] := va_S.rf
  have hA : ∀ q, s.heap.size ≤ q → cA ad s.heap.size q := fun _ h => Or.inr h
  have hAc : ∀ j, j < 33 → cA ad s.heap.size (ad j) := fun j h => Or.inl ⟨j, h, rfl⟩
  have hl := lv_entry ([.ref (ad (9 + i))]) (n := 1) (Nat.le_of_ble_eq_true rfl)
  rw [lg_entry_eq]
  generalize (lg_sl ([.ref (ad (9 + i))]) ++ List.replicate (1 - (lg_sl ([.ref (ad (9 + i))])).length) Slot.unset).toArray = ls at hl ⊢
  have hl : lv_has ls 1 [(0, .ref (ad (9 + i)))] := hl
  have hF1 : ∀ w ∈ wsX10, w ∈ wsX1_settleFromPurse := by decide +kernel
  have lf28 := hts (.fieldLink RX1 28 "HarvestLender$Farmer" "called" "J") (by decide +kernel)
  have lf19 := hts (.fieldLink RX1 19 "HarvestLender$Farmer" "debt" "J") (by decide +kernel)
  have lf15 := hts (.fieldLink RX1 15 "HarvestLender$Farmer" "purse" "J") (by decide +kernel)
  have lm73 := hts (.methodLink RX1 73 Lib.MathLoose.min_long.x) (by decide +kernel)
  have lms73 := hts (.static Lib.MathLoose.min_long.x) (by decide +kernel)
  have lmi := hts (.initialized "java/lang/Math") (by decide +kernel)
  have lmc73 := hts (.code Lib.MathLoose.min_long.x Lib.MathLoose.min_long.code 4 (some .long)) (by decide +kernel)
  refine lv_aload_n hx hb dX1_settleFromPurse_0 rfl (lv_at hl 0 rfl) ?_
  refine k_lconst (v := 0) hx hb dX1_settleFromPurse_1 rfl ?_
  refine k_pFl (i := i) (v := 0) hx hb hts hown hF1 hI hAc hK hP hS hi 5 rfl (by decide) lf28 dX1_settleFromPurse_2 rfl rfl (by decide +kernel) (fun H locs hP hS => ?_)
  refine lv_aload_n hx hb dX1_settleFromPurse_5 rfl (lv_at hl 0 rfl) ?_
  refine lv_dup hx hb dX1_settleFromPurse_6 rfl ?_
  refine k_gF (i := i) (v := .long (iL (σ (9 + i) 2))) hx hb hts hown hF1 hK hP hi 2 (by decide) lf19 dX1_settleFromPurse_7 rfl (congrArg (fun z => some (Value.long (iL z))) (by simp [up] : (up σ (9 + i) 5 0) (9 + i) 2 = σ (9 + i) 2)) ?_
  refine lv_aload_n hx hb dX1_settleFromPurse_10 rfl (lv_at hl 0 rfl) ?_
  refine k_cl (As := []) (rest := [.long (iL (σ (9 + i) 2)), .ref (ad (9 + i))]) ⟨hx, hb, hml, hown, hts⟩ (c_take l G ad cy hI (up σ (9 + i) 5 0) i hi (by simp [up]; omega)) (cwV 0 hts gX1_settleFromPurse_X1_takeInstalment rfl rfl rfl (by decide +kernel) ⟨Nat.le_of_ble_eq_true rfl, Nat.le_of_ble_eq_true rfl⟩) (cRecvF hK hP hi) hAc hA hK hP hS rfl hl.1 rfl (Nat.le_of_ble_eq_true rfl) dX1_settleFromPurse_11 ⟨Nat.zero_le _, Nat.zero_le _⟩ (fun H locs hP hS => ?_)
  refine k_ladd hx hb dX1_settleFromPurse_14 ?_
  refine k_pFl (i := i) (v := (σ (9 + i) 2) + (fTakeV (up σ (9 + i) 5 0) i)) hx hb hts hown hF1 hI hAc hK hP hS hi 2 rfl (by decide) lf19 dX1_settleFromPurse_15 rfl rfl (by decide +kernel) (fun H locs hP hS => ?_)
  refine lv_aload_n hx hb dX1_settleFromPurse_18 rfl (lv_at hl 0 rfl) ?_
  refine lv_aload_n hx hb dX1_settleFromPurse_19 rfl (lv_at hl 0 rfl) ?_
  refine k_gF (i := i) (v := .long (iL ((σ (9 + i) 2) + (fTakeV (up σ (9 + i) 5 0) i)))) hx hb hts hown hF1 hK hP hi 2 (by decide) lf19 dX1_settleFromPurse_20 rfl (congrArg (fun z => some (Value.long (iL z))) (by simp [up] : (up (fTake (up σ (9 + i) 5 0) i) (9 + i) 2 ((σ (9 + i) 2) + (fTakeV (up σ (9 + i) 5 0) i))) (9 + i) 2 = (σ (9 + i) 2) + (fTakeV (up σ (9 + i) 5 0) i))) ?_
  refine lv_aload_n hx hb dX1_settleFromPurse_23 rfl (lv_at hl 0 rfl) ?_
  refine k_gF (i := i) (v := .long (iL (σ (9 + i) 1))) hx hb hts hown hF1 hK hP hi 1 (by decide) lf15 dX1_settleFromPurse_24 rfl (congrArg (fun z => some (Value.long (iL z))) (by simp [fTake_o, up] : (up (fTake (up σ (9 + i) 5 0) i) (9 + i) 2 ((σ (9 + i) 2) + (fTakeV (up σ (9 + i) 5 0) i))) (9 + i) 1 = σ (9 + i) 1)) ?_
  refine k_mminl hx hb (hml.trans hl.1.symm) hown lm73 lms73 lmi lmc73 (Nat.le_of_ble_eq_true rfl) (Nat.le_of_ble_eq_true rfl) (Nat.zero_le _) (Nat.zero_le _) (by omega) (by omega) dX1_settleFromPurse_27 ?_
  refine k_cv (As := [.long (iL (mn ((σ (9 + i) 2) + (fTakeV (up σ (9 + i) 5 0) i)) (σ (9 + i) 1)))]) (rest := []) ⟨hx, hb, hml, hown, hts⟩ (c_repay l G ad cy hI (up (fTake (up σ (9 + i) 5 0) i) (9 + i) 2 ((σ (9 + i) 2) + (fTakeV (up σ (9 + i) 5 0) i))) i hi (mn ((σ (9 + i) 2) + (fTakeV (up σ (9 + i) 5 0) i)) (σ (9 + i) 1))) (cwV 1 hts gX1_settleFromPurse_X1_repayFromPurse rfl rfl rfl (by decide +kernel) ⟨Nat.le_of_ble_eq_true rfl, Nat.le_of_ble_eq_true rfl⟩) (cRecvF hK hP hi) hAc hA hK hP hS rfl hl.1 rfl (Nat.le_of_ble_eq_true rfl) dX1_settleFromPurse_30 ⟨Nat.zero_le _, Nat.zero_le _⟩ (fun H locs hP hS => ?_)
  have eF : fRepay (up (fTake (up σ (9 + i) 5 0) i) (9 + i) 2 ((σ (9 + i) 2) + (fTakeV (up σ (9 + i) 5 0) i))) i (mn ((σ (9 + i) 2) + (fTakeV (up σ (9 + i) 5 0) i)) (σ (9 + i) 1)) = fSettle σ i := by first | rfl | (simp only [fSettle, fSettle0, up_s]; done) | (simp only [fSettle, fSettle0, up_s]; repeat' split) <;> first | rfl | (exfalso; omega) | omega
  rw [eF] at hP
  exact W.vret hx hb hr (fun t ht hW => ⟨⟨_, rfl, rfl, by rw [ht]; exact hP, va_K.moved hW.alike hK⟩, hS.F ht⟩) hS.2.2 dX1_settleFromPurse_33
set_option maxHeartbeats 4000000 in
set_option maxRecDepth 100000 in
theorem c_payFor (l : Launch) (G : va_G) (ad : Nat → Nat) (cy : Nat → ClassId) (hI : cI ad) (σ : Sg) (i : Nat) (hi : i < 8) (j : Nat) (hj : j < 8) (h2 : nB (σ (9 + j) 2)) (h1 : nB (σ (9 + i) 1)) (h5 : nB (σ (9 + i) 5)) : cMv l yX1_payFor wsX1_payFor ({ frames := 1, cells := 0, slots := 0, locals := 23 } : Room) G ad cy [.ref (ad (9 + i)), .ref (ad (9 + j))] σ (fPay σ i j) := by
  intro sz
  refine Met.ofW (cc := cX1_payFor) (maxL := 4) (ret := none) (by decide) rfl ?_
  intro p e s m args below meth cd s₁ B hml hv
  obtain ⟨rfl, hsz, hP, hK⟩ := hv
  have hx := B.exec
  have hb := B.bytes
  have hr := B.returns
  have hts := atoms_spec (ws := wsX1_payFor) B.pre
  have hown : s.vm.findClass RX1 = some m.cls := findClass_of_methodNamed B.named
  have hlocks := B.notSynchronized
  subst hsz
  have hS : va_S (cA ad s.heap.size) s.heap s.heap [] := va_S.rf
  have hA : ∀ q, s.heap.size ≤ q → cA ad s.heap.size q := fun _ h => Or.inr h
  have hAc : ∀ j, j < 33 → cA ad s.heap.size (ad j) := fun j h => Or.inl ⟨j, h, rfl⟩
  have hl := lv_entry ([.ref (ad (9 + i)), .ref (ad (9 + j))]) (n := 4) (Nat.le_of_ble_eq_true rfl)
  rw [lg_entry_eq]
  generalize (lg_sl ([.ref (ad (9 + i)), .ref (ad (9 + j))]) ++ List.replicate (4 - (lg_sl ([.ref (ad (9 + i)), .ref (ad (9 + j))])).length) Slot.unset).toArray = ls at hl ⊢
  have hl : lv_has ls 4 [(0, .ref (ad (9 + i))), (1, .ref (ad (9 + j)))] := hl
  have hF1 : ∀ w ∈ wsX10, w ∈ wsX1_payFor := by decide +kernel
  have lf19 := hts (.fieldLink RX1 19 "HarvestLender$Farmer" "debt" "J") (by decide +kernel)
  have lf15 := hts (.fieldLink RX1 15 "HarvestLender$Farmer" "purse" "J") (by decide +kernel)
  have lc119 := hts (.constantLong RX1 119 (20000)) (by decide +kernel)
  have lf28 := hts (.fieldLink RX1 28 "HarvestLender$Farmer" "called" "J") (by decide +kernel)
  have lm73 := hts (.methodLink RX1 73 Lib.MathLoose.min_long.x) (by decide +kernel)
  have lms73 := hts (.static Lib.MathLoose.min_long.x) (by decide +kernel)
  have lmi := hts (.initialized "java/lang/Math") (by decide +kernel)
  have lmc73 := hts (.code Lib.MathLoose.min_long.x Lib.MathLoose.min_long.code 4 (some .long)) (by decide +kernel)
  have m1 := mn_le1 (σ (9 + i) 1) (20000 - σ (9 + i) 5)
  have m2 := mn_ge (σ (9 + i) 1) (20000 - σ (9 + i) 5) (-2147500000) (by omega) (by omega)
  refine lv_aload_n hx hb dX1_payFor_0 rfl (lv_at hl 1 rfl) ?_
  refine k_gF (i := j) (v := .long (iL (σ (9 + j) 2))) hx hb hts hown hF1 hK hP hj 2 (by decide) lf19 dX1_payFor_1 rfl rfl ?_
  refine lv_aload_n hx hb dX1_payFor_4 rfl (lv_at hl 0 rfl) ?_
  refine k_gF (i := i) (v := .long (iL (σ (9 + i) 1))) hx hb hts hown hF1 hK hP hi 1 (by decide) lf15 dX1_payFor_5 rfl rfl ?_
  refine k_ldc2 hx hb (20000) hown lc119 (by decide) dX1_payFor_8 ?_
  refine lv_aload_n hx hb dX1_payFor_11 rfl (lv_at hl 0 rfl) ?_
  refine k_gF (i := i) (v := .long (iL (σ (9 + i) 5))) hx hb hts hown hF1 hK hP hi 5 (by decide) lf28 dX1_payFor_12 rfl rfl ?_
  refine k_lsub hx hb dX1_payFor_15 ?_
  refine k_mminl hx hb (hml.trans hl.1.symm) hown lm73 lms73 lmi lmc73 (Nat.le_of_ble_eq_true rfl) (Nat.le_of_ble_eq_true rfl) (Nat.zero_le _) (Nat.zero_le _) (by omega) (by omega) dX1_payFor_16 ?_
  refine k_mminl hx hb (hml.trans hl.1.symm) hown lm73 lms73 lmi lmc73 (Nat.le_of_ble_eq_true rfl) (Nat.le_of_ble_eq_true rfl) (Nat.zero_le _) (Nat.zero_le _) (by omega) (by omega) dX1_payFor_19 ?_
  refine lv_lstore_n (lv' := [(2, .long (iL (mn (σ (9 + j) 2) (mn (σ (9 + i) 1) (20000 - (σ (9 + i) 5)))))), (0, .ref (ad (9 + i))), (1, .ref (ad (9 + j)))]) hx hb dX1_payFor_22 rfl hl (by decide) rfl (fun ls hl => ?_)
  refine lv_aload_n hx hb dX1_payFor_23 rfl (lv_at hl 1 rfl) ?_
  refine lv_dup hx hb dX1_payFor_24 rfl ?_
  refine k_gF (i := i) (v := .long (iL (σ (9 + i) 1))) hx hb hts hown hF1 hK hP hi 1 (by decide) lf15 dX1_payFor_25 rfl rfl ?_
  refine lv_lload_n hx hb dX1_payFor_28 rfl (lv_at hl 0 rfl) ?_
  refine k_lsub hx hb dX1_payFor_29 ?_
  refine k_pFl (i := i) (v := (σ (9 + i) 1) - (mn (σ (9 + j) 2) (mn (σ (9 + i) 1) (20000 - (σ (9 + i) 5))))) hx hb hts hown hF1 hI hAc hK hP hS hi 1 rfl (by decide) lf15 dX1_payFor_30 rfl rfl (by decide +kernel) (fun H locs hP hS => ?_)
  refine lv_aload_n hx hb dX1_payFor_33 rfl (lv_at hl 1 rfl) ?_
  refine lv_dup hx hb dX1_payFor_34 rfl ?_
  refine k_gF (i := i) (v := .long (iL (σ (9 + i) 5))) hx hb hts hown hF1 hK hP hi 5 (by decide) lf28 dX1_payFor_35 rfl (congrArg (fun z => some (Value.long (iL z))) (by simp [up] : (up σ (9 + i) 1 ((σ (9 + i) 1) - (mn (σ (9 + j) 2) (mn (σ (9 + i) 1) (20000 - (σ (9 + i) 5)))))) (9 + i) 5 = σ (9 + i) 5)) ?_
  refine lv_lload_n hx hb dX1_payFor_38 rfl (lv_at hl 0 rfl) ?_
  refine k_ladd hx hb dX1_payFor_39 ?_
  refine k_pFl (i := i) (v := (σ (9 + i) 5) + (mn (σ (9 + j) 2) (mn (σ (9 + i) 1) (20000 - (σ (9 + i) 5))))) hx hb hts hown hF1 hI hAc hK hP hS hi 5 rfl (by decide) lf28 dX1_payFor_40 rfl rfl (by decide +kernel) (fun H locs hP hS => ?_)
  refine lv_aload_n hx hb dX1_payFor_43 rfl (lv_at hl 2 rfl) ?_
  refine lv_lload_n hx hb dX1_payFor_44 rfl (lv_at hl 0 rfl) ?_
  refine k_iconst hx hb dX1_payFor_45 ?_
  refine k_cv (As := [.long (iL (mn (σ (9 + j) 2) (mn (σ (9 + i) 1) (20000 - (σ (9 + i) 5))))), .int (iI 4)]) (rest := []) ⟨hx, hb, hml, hown, hts⟩ (c_lower l G ad cy hI (up (up σ (9 + i) 1 ((σ (9 + i) 1) - (mn (σ (9 + j) 2) (mn (σ (9 + i) 1) (20000 - (σ (9 + i) 5)))))) (9 + i) 5 ((σ (9 + i) 5) + (mn (σ (9 + j) 2) (mn (σ (9 + i) 1) (20000 - (σ (9 + i) 5)))))) j hj (mn (σ (9 + j) 2) (mn (σ (9 + i) 1) (20000 - (σ (9 + i) 5)))) 4 (by decide)) (cwV 2 hts gX1_payFor_X1_lowerDebt rfl rfl rfl (by decide +kernel) ⟨Nat.le_of_ble_eq_true rfl, Nat.le_of_ble_eq_true rfl⟩) (cRecvF hK hP hj) hAc hA hK hP hS rfl hl.1 rfl (Nat.le_of_ble_eq_true rfl) dX1_payFor_46 ⟨Nat.zero_le _, Nat.zero_le _⟩ (fun H locs hP hS => ?_)
  have eF : fLower (up (up σ (9 + i) 1 ((σ (9 + i) 1) - (mn (σ (9 + j) 2) (mn (σ (9 + i) 1) (20000 - (σ (9 + i) 5)))))) (9 + i) 5 ((σ (9 + i) 5) + (mn (σ (9 + j) 2) (mn (σ (9 + i) 1) (20000 - (σ (9 + i) 5)))))) j (mn (σ (9 + j) 2) (mn (σ (9 + i) 1) (20000 - (σ (9 + i) 5)))) 4 = fPay σ i j := by first | rfl | (simp only [fPay, fPayC, up_s]; done) | (simp only [fPay, fPayC, up_s]; repeat' split) <;> first | rfl | (exfalso; omega) | omega
  rw [eF] at hP
  exact W.vret hx hb hr (fun t ht hW => ⟨⟨_, rfl, rfl, by rw [ht]; exact hP, va_K.moved hW.alike hK⟩, hS.F ht⟩) hS.2.2 dX1_payFor_49
set_option maxHeartbeats 4000000 in
set_option maxRecDepth 100000 in
theorem c_roll (l : Launch) (G : va_G) (ad : Nat → Nat) (cy : Nat → ClassId) (hI : cI ad) (σ : Sg) (i : Nat) (hi : i < 8) (h2 : 0 ≤ σ (9 + i) 2 ∧ σ (9 + i) 2 ≤ 2147483647) : cMv l yX1_rollDebt wsX1_rollDebt ({ frames := 0, cells := 0, slots := 0, locals := 0 } : Room) G ad cy [.ref (ad (9 + i))] σ (fRoll σ i) := by
  intro sz
  refine Met.ofW (cc := cX1_rollDebt) (maxL := 4) (ret := none) (by decide) rfl ?_
  intro p e s m args below meth cd s₁ B hml hv
  obtain ⟨rfl, hsz, hP, hK⟩ := hv
  have hx := B.exec
  have hb := B.bytes
  have hr := B.returns
  have hts := atoms_spec (ws := wsX1_rollDebt) B.pre
  have hown : s.vm.findClass RX1 = some m.cls := findClass_of_methodNamed B.named
  have hlocks := B.notSynchronized
  subst hsz
  have hS : va_S (cA ad s.heap.size) s.heap s.heap [] := va_S.rf
  have hA : ∀ q, s.heap.size ≤ q → cA ad s.heap.size q := fun _ h => Or.inr h
  have hAc : ∀ j, j < 33 → cA ad s.heap.size (ad j) := fun j h => Or.inl ⟨j, h, rfl⟩
  have hl := lv_entry ([.ref (ad (9 + i))]) (n := 4) (Nat.le_of_ble_eq_true rfl)
  rw [lg_entry_eq]
  generalize (lg_sl ([.ref (ad (9 + i))]) ++ List.replicate (4 - (lg_sl ([.ref (ad (9 + i))])).length) Slot.unset).toArray = ls at hl ⊢
  have hl : lv_has ls 4 [(0, .ref (ad (9 + i)))] := hl
  have hF1 : ∀ w ∈ wsX10, w ∈ wsX1_rollDebt := by decide +kernel
  have lf35 := hts (.fieldLink RX1 35 "HarvestLender$Farmer" "instalments" "[J") (by decide +kernel)
  have lf19 := hts (.fieldLink RX1 19 "HarvestLender$Farmer" "debt" "J") (by decide +kernel)
  have lc65 := hts (.constantLong RX1 65 (2)) (by decide +kernel)
  have lf38 := hts (.fieldLink RX1 38 "HarvestLender$Farmer" "instalmentsLeft" "I") (by decide +kernel)
  have lc117 := hts (.constantLong RX1 117 (3)) (by decide +kernel)
  have loop : ∀ (d k : Nat), k ≤ 3 → 3 < k + d → ∀ (H : Heap) (locs : List Loc) (ls : Array Slot), va_P G vwCl (cW ad cy (fParts σ i k)) H → va_S (cA ad s.heap.size) s.heap H locs → lv_has ls 4 [(0, .ref (ad (9 + i))), (1, .long (iL (σ (9 + i) 2 / 3))), (3, .int (iI (k : Int)))] → W p l e (headSpec wsX1_rollDebt ({ frames := 0, cells := 0, slots := 0, locals := 0 } : Room)).room s m ([.ref (ad (9 + i))] : List Value).toArray below meth cd H locs 0 0 (MQ below (va_Qv (fun u : Sg => u = fRoll σ i) (cB G ad cy) (cA ad s.heap.size)) ([.ref (ad (9 + i))] : List Value).toArray s 0 0 (cA ad s.heap.size)) (F0 m 11 ls []) := by
    intro d
    induction d with
    | zero => intro k h1 h2; exact absurd h2 (by omega)
    | succ d ih =>
      intro k hk hd  H locs ls hP hS hl
      refine lv_iload_n hx hb dX1_rollDebt_11 rfl (lv_at hl 2 rfl) ?_
      refine k_iconst hx hb dX1_rollDebt_12 ?_
      refine k_icmp_ge (tgt := 29) hx hb dX1_rollDebt_13 (by decide) (by omega) (by decide) (fun c_1 => ?_) (fun c_1 => ?_)
      · rw [show fParts σ i k = fParts σ i 3 by rw [show k = 3 by omega]] at hP
        refine lv_aload_n hx hb dX1_rollDebt_29 rfl (lv_at hl 0 rfl) ?_
        refine k_gF (i := i) (v := .ref (ad (25 + i))) hx hb hts hown hF1 hK hP hi 7 (by decide) lf35 dX1_rollDebt_30 rfl rfl ?_
        refine k_iconst hx hb dX1_rollDebt_33 ?_
        refine lv_aload_n hx hb dX1_rollDebt_34 rfl (lv_at hl 0 rfl) ?_
        refine k_gF (i := i) (v := .long (iL (σ (9 + i) 2))) hx hb hts hown hF1 hK hP hi 2 (by decide) lf19 dX1_rollDebt_35 rfl (congrArg (fun z => some (Value.long (iL z))) (by simp [fParts, up] : (fParts σ i 3) (9 + i) 2 = σ (9 + i) 2)) ?_
        refine lv_lload_n hx hb dX1_rollDebt_38 rfl (lv_at hl 1 rfl) ?_
        refine k_ldc2 hx hb (2) hown lc65 (by decide) dX1_rollDebt_39 ?_
        refine k_lmul hx hb dX1_rollDebt_42 ?_
        refine k_lsub hx hb dX1_rollDebt_43 ?_
        refine k_tstN (i := i) (x := 2) (v := (σ (9 + i) 2) - ((σ (9 + i) 2 / 3) * 2)) hx hb hI hAc hK hP hS hi (by omega) dX1_rollDebt_44 (fun H locs hP hS => ?_)
        refine lv_aload_n hx hb dX1_rollDebt_45 rfl (lv_at hl 0 rfl) ?_
        refine k_iconst hx hb dX1_rollDebt_46 ?_
        refine k_pFi (i := i) (v := 3) hx hb hts hown hF1 hI hAc hK hP hS hi 8 rfl (by decide) lf38 dX1_rollDebt_47 rfl rfl (by decide +kernel) (fun H locs hP hS => ?_)
        refine lv_aload_n hx hb dX1_rollDebt_50 rfl (lv_at hl 0 rfl) ?_
        refine k_lconst (v := 0) hx hb dX1_rollDebt_51 rfl ?_
        refine k_pFl (i := i) (v := 0) hx hb hts hown hF1 hI hAc hK hP hS hi 2 rfl (by decide) lf19 dX1_rollDebt_52 rfl rfl (by decide +kernel) (fun H locs hP hS => ?_)
        have eF : up (up (up (fParts σ i 3) (25 + i) 2 ((σ (9 + i) 2) - ((σ (9 + i) 2 / 3) * 2))) (9 + i) 8 3) (9 + i) 2 0 = fRoll σ i := by first | rfl | (simp only [fRoll, up_s]; done) | (simp only [fRoll, up_s]; repeat' split) <;> first | rfl | (exfalso; omega) | omega
        rw [eF] at hP
        exact W.vret hx hb hr (fun t ht hW => ⟨⟨_, rfl, rfl, by rw [ht]; exact hP, va_K.moved hW.alike hK⟩, hS.F ht⟩) hS.2.2 dX1_rollDebt_55
      · refine lv_aload_n hx hb dX1_rollDebt_16 rfl (lv_at hl 0 rfl) ?_
        refine k_gF (i := i) (v := .ref (ad (25 + i))) hx hb hts hown hF1 hK hP hi 7 (by decide) lf35 dX1_rollDebt_17 rfl rfl ?_
        refine lv_iload_n hx hb dX1_rollDebt_20 rfl (lv_at hl 2 rfl) ?_
        refine lv_lload_n hx hb dX1_rollDebt_21 rfl (lv_at hl 1 rfl) ?_
        refine k_tstN (i := i) (x := k) (v := σ (9 + i) 2 / 3) hx hb hI hAc hK hP hS hi (by omega) dX1_rollDebt_22 (fun H locs hP hS => ?_)
        refine lv_iinc (v := iI ((k : Int) + 1)) (lv' := [(3, .int (iI ((k : Int) + 1))), (0, .ref (ad (9 + i))), (1, .long (iL (σ (9 + i) 2 / 3)))]) hx hb dX1_rollDebt_23 hl (k := 2) rfl (iI_add _ _) (by decide) rfl (fun ls hl => ?_)
        refine lv_goto (tgt := 11) hx hb dX1_rollDebt_26 (by decide) ?_
        have q2 : up (fParts σ i k) (25 + i) k (σ (9 + i) 2 / 3) = fParts σ i (k + 1) := by rfl
        rw [q2] at hP
        exact ih (k + 1) (by omega) (by omega)  _ _ _ hP hS (lv_sub hl [1, 2, 0] rfl)
  refine lv_aload_n hx hb dX1_rollDebt_0 rfl (lv_at hl 0 rfl) ?_
  refine k_gF (i := i) (v := .long (iL (σ (9 + i) 2))) hx hb hts hown hF1 hK hP hi 2 (by decide) lf19 dX1_rollDebt_1 rfl rfl ?_
  refine k_ldc2 hx hb (3) hown lc117 (by decide) dX1_rollDebt_4 ?_
  refine k_ldiv hx hb dX1_rollDebt_7 (by omega) (by omega) (by decide) (by decide) ?_
  refine lv_lstore_n (lv' := [(1, .long (iL ((σ (9 + i) 2) / 3))), (0, .ref (ad (9 + i)))]) hx hb dX1_rollDebt_8 rfl hl (by decide) rfl (fun ls hl => ?_)
  refine k_iconst hx hb dX1_rollDebt_9 ?_
  refine lv_istore_n (lv' := [(3, .int (iI 0)), (1, .long (iL ((σ (9 + i) 2) / 3))), (0, .ref (ad (9 + i)))]) hx hb dX1_rollDebt_10 rfl hl (by decide) rfl (fun ls hl => ?_)
  have q3 : σ (9 + i) 2 / 3 = (σ (9 + i) 2) / 3 := by rfl
  have q4 : σ = fParts σ i 0 := by rfl
  rw [q4] at hP
  exact loop (3 + 1) 0 (Nat.zero_le _) (by omega)  _ _ _ hP hS (by rw [q3]; exact lv_sub hl [2, 1, 0] rfl)
set_option maxHeartbeats 4000000 in
set_option maxRecDepth 100000 in
theorem c_sum (l : Launch) (G : va_G) (ad : Nat → Nat) (cy : Nat → ClassId) (hI : cI ad) (σ : Sg) (i : Nat) (hi : i < 8) (h8 : 0 ≤ σ (9 + i) 8 ∧ σ (9 + i) 8 ≤ 3) : cMl l yX1_instalmentSum wsX1_instalmentSum ({ frames := 0, cells := 0, slots := 0, locals := 0 } : Room) G ad cy [.ref (ad (9 + i))] σ (fSum σ i 3) σ := by
  intro sz
  refine Met.ofW (cc := cX1_instalmentSum) (maxL := 4) (ret := (some .long)) (by decide) rfl ?_
  intro p e s m args below meth cd s₁ B hml hv
  obtain ⟨rfl, hsz, hP, hK⟩ := hv
  have hx := B.exec
  have hb := B.bytes
  have hr := B.returns
  have hts := atoms_spec (ws := wsX1_instalmentSum) B.pre
  have hown : s.vm.findClass RX1 = some m.cls := findClass_of_methodNamed B.named
  have hlocks := B.notSynchronized
  subst hsz
  have hS : va_S (cA ad s.heap.size) s.heap s.heap [] := va_S.rf
  have hA : ∀ q, s.heap.size ≤ q → cA ad s.heap.size q := fun _ h => Or.inr h
  have hAc : ∀ j, j < 33 → cA ad s.heap.size (ad j) := fun j h => Or.inl ⟨j, h, rfl⟩
  have hl := lv_entry ([.ref (ad (9 + i))]) (n := 4) (Nat.le_of_ble_eq_true rfl)
  rw [lg_entry_eq]
  generalize (lg_sl ([.ref (ad (9 + i))]) ++ List.replicate (4 - (lg_sl ([.ref (ad (9 + i))])).length) Slot.unset).toArray = ls at hl ⊢
  have hl : lv_has ls 4 [(0, .ref (ad (9 + i)))] := hl
  have hF1 : ∀ w ∈ wsX10, w ∈ wsX1_instalmentSum := by decide +kernel
  have lf38 := hts (.fieldLink RX1 38 "HarvestLender$Farmer" "instalmentsLeft" "I") (by decide +kernel)
  have lf35 := hts (.fieldLink RX1 35 "HarvestLender$Farmer" "instalments" "[J") (by decide +kernel)
  have loop : ∀ (d k : Nat), k ≤ 3 → 3 < k + d → ∀ (H : Heap) (locs : List Loc) (ls : Array Slot), va_P G vwCl (cW ad cy σ) H → va_S (cA ad s.heap.size) s.heap H locs → lv_has ls 4 [(0, .ref (ad (9 + i))), (1, .long (iL (fSum σ i k))), (3, .int (iI (k : Int)))] → W p l e (headSpec wsX1_instalmentSum ({ frames := 0, cells := 0, slots := 0, locals := 0 } : Room)).room s m ([.ref (ad (9 + i))] : List Value).toArray below meth cd H locs 0 0 (MQ below (va_Ql (fun (v : Int64) (u : Sg) => v = iL (fSum σ i 3) ∧ u = σ) (cB G ad cy) (cA ad s.heap.size)) ([.ref (ad (9 + i))] : List Value).toArray s 0 0 (cA ad s.heap.size)) (F0 m 4 ls []) := by
    intro d
    induction d with
    | zero => intro k h1 h2; exact absurd h2 (by omega)
    | succ d ih =>
      intro k hk hd  H locs ls hP hS hl
      refine lv_iload_n hx hb dX1_instalmentSum_4 rfl (lv_at hl 2 rfl) ?_
      refine k_iconst hx hb dX1_instalmentSum_5 ?_
      refine k_icmp_ge (tgt := 34) hx hb dX1_instalmentSum_6 (by decide) (by omega) (by decide) (fun c_1 => ?_) (fun c_1 => ?_)
      · refine lv_lload_n hx hb dX1_instalmentSum_34 rfl (lv_at hl 1 rfl) ?_
        have eR : fSum σ i k = fSum σ i 3 := by (rw [show k = 3 by omega])
        exact W.lret hx hb hr (fun t ht hW => ⟨⟨_, _, rfl, ⟨by rw [eR], rfl⟩, by rw [ht]; exact hP, va_K.moved hW.alike hK⟩, hS.F ht⟩) hS.2.2 dX1_instalmentSum_35
      · refine lv_iload_n hx hb dX1_instalmentSum_9 rfl (lv_at hl 2 rfl) ?_
        refine k_iconst hx hb dX1_instalmentSum_10 ?_
        refine lv_aload_n hx hb dX1_instalmentSum_11 rfl (lv_at hl 0 rfl) ?_
        refine k_gF (i := i) (v := .int (iI (σ (9 + i) 8))) hx hb hts hown hF1 hK hP hi 8 (by decide) lf38 dX1_instalmentSum_12 rfl rfl ?_
        refine k_isub hx hb dX1_instalmentSum_15 ?_
        refine k_icmp_lt (tgt := 28) hx hb dX1_instalmentSum_16 (by decide) (by omega) (by omega) (fun c_2 => ?_) (fun c_2 => ?_)
        · refine lv_iinc (v := iI ((k : Int) + 1)) (lv' := [(3, .int (iI ((k : Int) + 1))), (0, .ref (ad (9 + i))), (1, .long (iL (fSum σ i k)))]) hx hb dX1_instalmentSum_28 hl (k := 2) rfl (iI_add _ _) (by decide) rfl (fun ls hl => ?_)
          refine lv_goto (tgt := 4) hx hb dX1_instalmentSum_31 (by decide) ?_
          have q3 : fSum σ i (k + 1) = fSum σ i k := by first | rfl | (simp only [fSum]; split <;> omega)
          exact ih (k + 1) (by omega) (by omega)  _ _ _ hP hS (by rw [q3]; exact lv_sub hl [1, 2, 0] rfl)
        · refine lv_lload_n hx hb dX1_instalmentSum_19 rfl (lv_at hl 1 rfl) ?_
          refine lv_aload_n hx hb dX1_instalmentSum_20 rfl (lv_at hl 0 rfl) ?_
          refine k_gF (i := i) (v := .ref (ad (25 + i))) hx hb hts hown hF1 hK hP hi 7 (by decide) lf35 dX1_instalmentSum_21 rfl rfl ?_
          refine lv_iload_n hx hb dX1_instalmentSum_24 rfl (lv_at hl 2 rfl) ?_
          refine k_tldN (i := i) (x := k) hx hb hK hP hi (by omega) dX1_instalmentSum_25 ?_
          refine k_ladd hx hb dX1_instalmentSum_26 ?_
          refine lv_lstore_n (lv' := [(1, .long (iL ((fSum σ i k) + (σ (25 + i) k)))), (0, .ref (ad (9 + i))), (3, .int (iI (k : Int)))]) hx hb dX1_instalmentSum_27 rfl hl (by decide) rfl (fun ls hl => ?_)
          refine lv_iinc (v := iI ((k : Int) + 1)) (lv' := [(3, .int (iI ((k : Int) + 1))), (1, .long (iL ((fSum σ i k) + (σ (25 + i) k)))), (0, .ref (ad (9 + i)))]) hx hb dX1_instalmentSum_28 hl (k := 2) rfl (iI_add _ _) (by decide) rfl (fun ls hl => ?_)
          refine lv_goto (tgt := 4) hx hb dX1_instalmentSum_31 (by decide) ?_
          have q4 : fSum σ i (k + 1) = (fSum σ i k) + (σ (25 + i) k) := by first | rfl | (simp only [fSum]; split <;> omega)
          exact ih (k + 1) (by omega) (by omega)  _ _ _ hP hS (by rw [q4]; exact lv_sub hl [2, 1, 0] rfl)
  refine k_lconst (v := 0) hx hb dX1_instalmentSum_0 rfl ?_
  refine lv_lstore_n (lv' := [(1, .long (iL 0)), (0, .ref (ad (9 + i)))]) hx hb dX1_instalmentSum_1 rfl hl (by decide) rfl (fun ls hl => ?_)
  refine k_iconst hx hb dX1_instalmentSum_2 ?_
  refine lv_istore_n (lv' := [(3, .int (iI 0)), (1, .long (iL 0)), (0, .ref (ad (9 + i)))]) hx hb dX1_instalmentSum_3 rfl hl (by decide) rfl (fun ls hl => ?_)
  have q5 : fSum σ i 0 = 0 := by first | rfl | (simp only [fSum]; split <;> omega)
  exact loop (3 + 1) 0 (Nat.zero_le _) (by omega)  _ _ _ hP hS (by rw [q5]; exact lv_sub hl [2, 1, 0] rfl)
