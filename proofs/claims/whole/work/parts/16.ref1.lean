set_option maxHeartbeats 4000000 in
set_option maxRecDepth 100000 in
theorem m_in (l : Launch) (G : va_G) (ad : Nat → Nat) (cy : Nat → ClassId) (hI : mI ad) (σ : Sg) (v a b : Int) (hv : nB v) (ha : nB a) (hb : nB b) : mMi l yX3_in wsX3_in ({ frames := 0, cells := 0, slots := 0, locals := 0 } : Room) G ad cy [.int (iI v), .int (iI a), .int (iI b)] σ (gIn v a b) σ := by
  intro sz
  refine Met.ofW (cc := cX3_in) (maxL := 3) (ret := (some .boolean)) (by decide) rfl ?_
  intro p e s m args below meth cd s₁ B hml hv
  obtain ⟨rfl, hsz, hP, hK⟩ := hv
  have hx := B.exec
  have hb := B.bytes
  have hr := B.returns
  have hts := atoms_spec (ws := wsX3_in) B.pre
  have hown : s.vm.findClass RX3 = some m.cls := findClass_of_methodNamed B.named
  have hlocks := B.notSynchronized
  subst hsz
  have hS : va_S (mA ad s.heap.size) s.heap s.heap [] := va_S.rf
  have hA : ∀ q, s.heap.size ≤ q → mA ad s.heap.size q := fun _ h => Or.inr h
  have hAc : ∀ j, j < 21 → mA ad s.heap.size (ad j) := fun j h => Or.inl ⟨j, h, rfl⟩
  have hl := lv_entry ([.int (iI v), .int (iI a), .int (iI b)]) (n := 3) (Nat.le_of_ble_eq_true rfl)
  rw [lg_entry_eq]
  generalize (lg_sl ([.int (iI v), .int (iI a), .int (iI b)]) ++ List.replicate (3 - (lg_sl ([.int (iI v), .int (iI a), .int (iI b)])).length) Slot.unset).toArray = ls at hl ⊢
  have hl : lv_has ls 3 [(0, .int (iI v)), (1, .int (iI a)), (2, .int (iI b))] := hl
  refine lv_iload_n hx hb dX3_in_0 rfl (lv_at hl 0 rfl) ?_
  refine lv_iload_n hx hb dX3_in_1 rfl (lv_at hl 1 rfl) ?_
  refine k_icmp_lt (tgt := 14) hx hb dX3_in_2 (by decide) (by omega) (by omega) (fun c_1 => ?_) (fun c_1 => ?_)
  · refine k_iconst hx hb dX3_in_14 ?_
    have eR : 0 = gIn v a b := by (unfold gIn; (repeat' split) <;> first | rfl | (exfalso; omega))
    exact W.zret hx hb hr (by decide) (fun t ht hW => ⟨⟨_, _, rfl, ⟨congrArg iI eR, rfl⟩, by rw [ht]; exact hP, va_K.moved hW.alike hK⟩, hS.F ht⟩) hS.2.2 dX3_in_15
  · refine lv_iload_n hx hb dX3_in_5 rfl (lv_at hl 0 rfl) ?_
    refine lv_iload_n hx hb dX3_in_6 rfl (lv_at hl 2 rfl) ?_
    refine k_icmp_gt (tgt := 14) hx hb dX3_in_7 (by decide) (by omega) (by omega) (fun c_2 => ?_) (fun c_2 => ?_)
    · refine k_iconst hx hb dX3_in_14 ?_
      have eR : 0 = gIn v a b := by (unfold gIn; (repeat' split) <;> first | rfl | (exfalso; omega))
      exact W.zret hx hb hr (by decide) (fun t ht hW => ⟨⟨_, _, rfl, ⟨congrArg iI eR, rfl⟩, by rw [ht]; exact hP, va_K.moved hW.alike hK⟩, hS.F ht⟩) hS.2.2 dX3_in_15
    · refine k_iconst hx hb dX3_in_10 ?_
      refine lv_goto (tgt := 15) hx hb dX3_in_11 (by decide) ?_
      have eR : 1 = gIn v a b := by (unfold gIn; (repeat' split) <;> first | rfl | (exfalso; omega))
      exact W.zret hx hb hr (by decide) (fun t ht hW => ⟨⟨_, _, rfl, ⟨congrArg iI eR, rfl⟩, by rw [ht]; exact hP, va_K.moved hW.alike hK⟩, hS.F ht⟩) hS.2.2 dX3_in_15
set_option maxHeartbeats 4000000 in
set_option maxRecDepth 100000 in
theorem m_isCrop (l : Launch) (G : va_G) (ad : Nat → Nat) (cy : Nat → ClassId) (hI : mI ad) (σ : Sg) (c : Int) (hc : nB c) : mMi l yX3_isCrop wsX3_isCrop ({ frames := 1, cells := 0, slots := 0, locals := 22 } : Room) G ad cy [.int (iI c)] σ (gIn c 0 2) σ := by
  intro sz
  refine Met.ofW (cc := cX3_isCrop) (maxL := 1) (ret := (some .boolean)) (by decide) rfl ?_
  intro p e s m args below meth cd s₁ B hml hv
  obtain ⟨rfl, hsz, hP, hK⟩ := hv
  have hx := B.exec
  have hb := B.bytes
  have hr := B.returns
  have hts := atoms_spec (ws := wsX3_isCrop) B.pre
  have hown : s.vm.findClass RX3 = some m.cls := findClass_of_methodNamed B.named
  have hlocks := B.notSynchronized
  subst hsz
  have hS : va_S (mA ad s.heap.size) s.heap s.heap [] := va_S.rf
  have hA : ∀ q, s.heap.size ≤ q → mA ad s.heap.size q := fun _ h => Or.inr h
  have hAc : ∀ j, j < 21 → mA ad s.heap.size (ad j) := fun j h => Or.inl ⟨j, h, rfl⟩
  have hl := lv_entry ([.int (iI c)]) (n := 1) (Nat.le_of_ble_eq_true rfl)
  rw [lg_entry_eq]
  generalize (lg_sl ([.int (iI c)]) ++ List.replicate (1 - (lg_sl ([.int (iI c)])).length) Slot.unset).toArray = ls at hl ⊢
  have hl : lv_has ls 1 [(0, .int (iI c))] := hl
  refine lv_iload_n hx hb dX3_isCrop_0 rfl (lv_at hl 0 rfl) ?_
  refine k_iconst hx hb dX3_isCrop_1 ?_
  refine k_iconst hx hb dX3_isCrop_2 ?_
  refine k_msi (As := [.int (iI c), .int (iI 0), .int (iI 2)]) (rest := []) ⟨hx, hb, hml, hown, hts⟩ (m_in l G ad cy hI σ c 0 2 (by omega) (by decide) (by decide)) (va_cwS 3 hts gX3_isCrop_X3_in rfl rfl rfl (by decide +kernel) ⟨Nat.le_of_ble_eq_true rfl, Nat.le_of_ble_eq_true rfl⟩) hAc hA hK hP hS rfl hl.1 rfl (Nat.le_of_ble_eq_true rfl) dX3_isCrop_3 ⟨Nat.zero_le _, Nat.zero_le _⟩ (fun H locs hP hS => ?_)
  have eR : gIn c 0 2 = gIn c 0 2 := by rfl
  exact W.zret hx hb hr (z01 _ (gIn_01 _ _ _)) (fun t ht hW => ⟨⟨_, _, rfl, ⟨congrArg iI eR, rfl⟩, by rw [ht]; exact hP, va_K.moved hW.alike hK⟩, hS.F ht⟩) hS.2.2 dX3_isCrop_6
set_option maxHeartbeats 4000000 in
set_option maxRecDepth 100000 in
theorem m_isFarmer (l : Launch) (G : va_G) (ad : Nat → Nat) (cy : Nat → ClassId) (hI : mI ad) (σ : Sg) (f : Int) (hf : nB f) (hcnt : 0 ≤ σ 0 6 ∧ σ 0 6 ≤ 8) : mMi l yX3_isFarmer wsX3_isFarmer ({ frames := 1, cells := 0, slots := 0, locals := 22 } : Room) G ad cy [.ref (ad 0), .int (iI f)] σ (gIn f 0 ((σ 0 6) - 1)) σ := by
  intro sz
  refine Met.ofW (cc := cX3_isFarmer) (maxL := 2) (ret := (some .boolean)) (by decide) rfl ?_
  intro p e s m args below meth cd s₁ B hml hv
  obtain ⟨rfl, hsz, hP, hK⟩ := hv
  have hx := B.exec
  have hb := B.bytes
  have hr := B.returns
  have hts := atoms_spec (ws := wsX3_isFarmer) B.pre
  have hown : s.vm.findClass RX3 = some m.cls := findClass_of_methodNamed B.named
  have hlocks := B.notSynchronized
  subst hsz
  have hS : va_S (mA ad s.heap.size) s.heap s.heap [] := va_S.rf
  have hA : ∀ q, s.heap.size ≤ q → mA ad s.heap.size q := fun _ h => Or.inr h
  have hAc : ∀ j, j < 21 → mA ad s.heap.size (ad j) := fun j h => Or.inl ⟨j, h, rfl⟩
  have hl := lv_entry ([.ref (ad 0), .int (iI f)]) (n := 2) (Nat.le_of_ble_eq_true rfl)
  rw [lg_entry_eq]
  generalize (lg_sl ([.ref (ad 0), .int (iI f)]) ++ List.replicate (2 - (lg_sl ([.ref (ad 0), .int (iI f)])).length) Slot.unset).toArray = ls at hl ⊢
  have hl : lv_has ls 2 [(0, .ref (ad 0)), (1, .int (iI f))] := hl
  have hF3 : ∀ w ∈ wsX30, w ∈ wsX3_isFarmer := by decide +kernel
  have lf78 := hts (.fieldLink RX3 78 "HarvestLenderModel" "farmers" "I") (by decide +kernel)
  refine lv_iload_n hx hb dX3_isFarmer_0 rfl (lv_at hl 1 rfl) ?_
  refine k_iconst hx hb dX3_isFarmer_1 ?_
  refine lv_aload_n hx hb dX3_isFarmer_2 rfl (lv_at hl 0 rfl) ?_
  refine k_mg (v := .int (iI (σ 0 6))) hx hb hts hown hF3 hK hP 6 (by decide) lf78 dX3_isFarmer_3 rfl rfl ?_
  refine k_iconst hx hb dX3_isFarmer_6 ?_
  refine k_isub hx hb dX3_isFarmer_7 ?_
  refine k_msi (As := [.int (iI f), .int (iI 0), .int (iI ((σ 0 6) - 1))]) (rest := []) ⟨hx, hb, hml, hown, hts⟩ (m_in l G ad cy hI σ f 0 ((σ 0 6) - 1) (by omega) (by decide) (by omega)) (va_cwS 3 hts gX3_isFarmer_X3_in rfl rfl rfl (by decide +kernel) ⟨Nat.le_of_ble_eq_true rfl, Nat.le_of_ble_eq_true rfl⟩) hAc hA hK hP hS rfl hl.1 rfl (Nat.le_of_ble_eq_true rfl) dX3_isFarmer_8 ⟨Nat.zero_le _, Nat.zero_le _⟩ (fun H locs hP hS => ?_)
  have eR : gIn f 0 ((σ 0 6) - 1) = gIn f 0 ((σ 0 6) - 1) := by rfl
  exact W.zret hx hb hr (z01 _ (gIn_01 _ _ _)) (fun t ht hW => ⟨⟨_, _, rfl, ⟨congrArg iI eR, rfl⟩, by rw [ht]; exact hP, va_K.moved hW.alike hK⟩, hS.F ht⟩) hS.2.2 dX3_isFarmer_11
set_option maxHeartbeats 4000000 in
set_option maxRecDepth 100000 in
theorem m_refused (l : Launch) (G : va_G) (ad : Nat → Nat) (cy : Nat → ClassId) (hI : mI ad) (σ : Sg) (q : Int) (hq : nB q) : mMi l yX3_refused wsX3_refused ({ frames := 0, cells := 0, slots := 0, locals := 0 } : Room) G ad cy [.ref (ad 0), .int (iI q)] σ (gNz q) (up σ 0 0 q) := by
  intro sz
  refine Met.ofW (cc := cX3_refused) (maxL := 2) (ret := (some .boolean)) (by decide) rfl ?_
  intro p e s m args below meth cd s₁ B hml hv
  obtain ⟨rfl, hsz, hP, hK⟩ := hv
  have hx := B.exec
  have hb := B.bytes
  have hr := B.returns
  have hts := atoms_spec (ws := wsX3_refused) B.pre
  have hown : s.vm.findClass RX3 = some m.cls := findClass_of_methodNamed B.named
  have hlocks := B.notSynchronized
  subst hsz
  have hS : va_S (mA ad s.heap.size) s.heap s.heap [] := va_S.rf
  have hA : ∀ q, s.heap.size ≤ q → mA ad s.heap.size q := fun _ h => Or.inr h
  have hAc : ∀ j, j < 21 → mA ad s.heap.size (ad j) := fun j h => Or.inl ⟨j, h, rfl⟩
  have hl := lv_entry ([.ref (ad 0), .int (iI q)]) (n := 2) (Nat.le_of_ble_eq_true rfl)
  rw [lg_entry_eq]
  generalize (lg_sl ([.ref (ad 0), .int (iI q)]) ++ List.replicate (2 - (lg_sl ([.ref (ad 0), .int (iI q)])).length) Slot.unset).toArray = ls at hl ⊢
  have hl : lv_has ls 2 [(0, .ref (ad 0)), (1, .int (iI q))] := hl
  have hF3 : ∀ w ∈ wsX30, w ∈ wsX3_refused := by decide +kernel
  have lf70 := hts (.fieldLink RX3 70 "HarvestLenderModel" "refusal" "I") (by decide +kernel)
  refine lv_aload_n hx hb dX3_refused_0 rfl (lv_at hl 0 rfl) ?_
  refine lv_iload_n hx hb dX3_refused_1 rfl (lv_at hl 1 rfl) ?_
  refine k_mp (v := q) hx hb hts hown hF3 hI hAc hK hP hS 0 (by decide) (by decide) lf70 dX3_refused_2 rfl rfl (by decide +kernel) (fun H locs hP hS => ?_)
  refine lv_iload_n hx hb dX3_refused_5 rfl (lv_at hl 1 rfl) ?_
  refine k_if_eq (tgt := 13) hx hb dX3_refused_6 (by decide) (by omega) (fun c_1 => ?_) (fun c_1 => ?_)
  · refine k_iconst hx hb dX3_refused_13 ?_
    have eR : 0 = gNz q := by (unfold gNz; (repeat' split) <;> first | rfl | (exfalso; omega))
    exact W.zret hx hb hr (by decide) (fun t ht hW => ⟨⟨_, _, rfl, ⟨congrArg iI eR, rfl⟩, by rw [ht]; exact hP, va_K.moved hW.alike hK⟩, hS.F ht⟩) hS.2.2 dX3_refused_14
  · refine k_iconst hx hb dX3_refused_9 ?_
    refine lv_goto (tgt := 14) hx hb dX3_refused_10 (by decide) ?_
    have eR : 1 = gNz q := by (unfold gNz; (repeat' split) <;> first | rfl | (exfalso; omega))
    exact W.zret hx hb hr (by decide) (fun t ht hW => ⟨⟨_, _, rfl, ⟨congrArg iI eR, rfl⟩, by rw [ht]; exact hP, va_K.moved hW.alike hK⟩, hS.F ht⟩) hS.2.2 dX3_refused_14
set_option maxHeartbeats 4000000 in
set_option maxRecDepth 100000 in
theorem m_fine (l : Launch) (G : va_G) (ad : Nat → Nat) (cy : Nat → ClassId) (hI : mI ad) (σ : Sg) (v : Int) (hv : nB v) : mMi l yX3_fine wsX3_fine ({ frames := 0, cells := 0, slots := 0, locals := 0 } : Room) G ad cy [.ref (ad 0), .int (iI v)] σ v (up σ 0 0 0) := by
  intro sz
  refine Met.ofW (cc := cX3_fine) (maxL := 2) (ret := (some .int)) (by decide) rfl ?_
  intro p e s m args below meth cd s₁ B hml hv
  obtain ⟨rfl, hsz, hP, hK⟩ := hv
  have hx := B.exec
  have hb := B.bytes
  have hr := B.returns
  have hts := atoms_spec (ws := wsX3_fine) B.pre
  have hown : s.vm.findClass RX3 = some m.cls := findClass_of_methodNamed B.named
  have hlocks := B.notSynchronized
  subst hsz
  have hS : va_S (mA ad s.heap.size) s.heap s.heap [] := va_S.rf
  have hA : ∀ q, s.heap.size ≤ q → mA ad s.heap.size q := fun _ h => Or.inr h
  have hAc : ∀ j, j < 21 → mA ad s.heap.size (ad j) := fun j h => Or.inl ⟨j, h, rfl⟩
  have hl := lv_entry ([.ref (ad 0), .int (iI v)]) (n := 2) (Nat.le_of_ble_eq_true rfl)
  rw [lg_entry_eq]
  generalize (lg_sl ([.ref (ad 0), .int (iI v)]) ++ List.replicate (2 - (lg_sl ([.ref (ad 0), .int (iI v)])).length) Slot.unset).toArray = ls at hl ⊢
  have hl : lv_has ls 2 [(0, .ref (ad 0)), (1, .int (iI v))] := hl
  have hF3 : ∀ w ∈ wsX30, w ∈ wsX3_fine := by decide +kernel
  have lf70 := hts (.fieldLink RX3 70 "HarvestLenderModel" "refusal" "I") (by decide +kernel)
  refine lv_aload_n hx hb dX3_fine_0 rfl (lv_at hl 0 rfl) ?_
  refine k_iconst hx hb dX3_fine_1 ?_
  refine k_mp (v := 0) hx hb hts hown hF3 hI hAc hK hP hS 0 (by decide) (by decide) lf70 dX3_fine_2 rfl rfl (by decide +kernel) (fun H locs hP hS => ?_)
  refine lv_iload_n hx hb dX3_fine_5 rfl (lv_at hl 1 rfl) ?_
  have eR : v = v := by rfl
  exact W.iret hx hb hr (fun t ht hW => ⟨⟨_, _, rfl, ⟨congrArg iI eR, rfl⟩, by rw [ht]; exact hP, va_K.moved hW.alike hK⟩, hS.F ht⟩) hS.2.2 dX3_fine_6
set_option maxHeartbeats 4000000 in
set_option maxRecDepth 100000 in
theorem m_thrown (l : Launch) (G : va_G) (ad : Nat → Nat) (cy : Nat → ClassId) (hI : mI ad) (σ : Sg)  : mMi l yX3_thrown wsX3_thrown ({ frames := 0, cells := 0, slots := 0, locals := 0 } : Room) G ad cy [.ref (ad 0)] σ (σ 0 0) σ := by
  intro sz
  refine Met.ofW (cc := cX3_thrown) (maxL := 1) (ret := (some .int)) (by decide) rfl ?_
  intro p e s m args below meth cd s₁ B hml hv
  obtain ⟨rfl, hsz, hP, hK⟩ := hv
  have hx := B.exec
  have hb := B.bytes
  have hr := B.returns
  have hts := atoms_spec (ws := wsX3_thrown) B.pre
  have hown : s.vm.findClass RX3 = some m.cls := findClass_of_methodNamed B.named
  have hlocks := B.notSynchronized
  subst hsz
  have hS : va_S (mA ad s.heap.size) s.heap s.heap [] := va_S.rf
  have hA : ∀ q, s.heap.size ≤ q → mA ad s.heap.size q := fun _ h => Or.inr h
  have hAc : ∀ j, j < 21 → mA ad s.heap.size (ad j) := fun j h => Or.inl ⟨j, h, rfl⟩
  have hl := lv_entry ([.ref (ad 0)]) (n := 1) (Nat.le_of_ble_eq_true rfl)
  rw [lg_entry_eq]
  generalize (lg_sl ([.ref (ad 0)]) ++ List.replicate (1 - (lg_sl ([.ref (ad 0)])).length) Slot.unset).toArray = ls at hl ⊢
  have hl : lv_has ls 1 [(0, .ref (ad 0))] := hl
  have hF3 : ∀ w ∈ wsX30, w ∈ wsX3_thrown := by decide +kernel
  have lf70 := hts (.fieldLink RX3 70 "HarvestLenderModel" "refusal" "I") (by decide +kernel)
  refine lv_aload_n hx hb dX3_thrown_0 rfl (lv_at hl 0 rfl) ?_
  refine k_mg (v := .int (iI (σ 0 0))) hx hb hts hown hF3 hK hP 0 (by decide) lf70 dX3_thrown_1 rfl rfl ?_
  have eR : σ 0 0 = σ 0 0 := by rfl
  exact W.iret hx hb hr (fun t ht hW => ⟨⟨_, _, rfl, ⟨congrArg iI eR, rfl⟩, by rw [ht]; exact hP, va_K.moved hW.alike hK⟩, hS.F ht⟩) hS.2.2 dX3_thrown_4
set_option maxHeartbeats 4000000 in
set_option maxRecDepth 100000 in
theorem m_farmers (l : Launch) (G : va_G) (ad : Nat → Nat) (cy : Nat → ClassId) (hI : mI ad) (σ : Sg)  (hv : nB (σ 0 6)) : mMi l yX3_farmers wsX3_farmers ({ frames := 1, cells := 0, slots := 0, locals := 21 } : Room) G ad cy [.ref (ad 0)] σ (σ 0 6) (up σ 0 0 0) := by
  intro sz
  refine Met.ofW (cc := cX3_farmers) (maxL := 1) (ret := (some .int)) (by decide) rfl ?_
  intro p e s m args below meth cd s₁ B hml hv
  obtain ⟨rfl, hsz, hP, hK⟩ := hv
  have hx := B.exec
  have hb := B.bytes
  have hr := B.returns
  have hts := atoms_spec (ws := wsX3_farmers) B.pre
  have hown : s.vm.findClass RX3 = some m.cls := findClass_of_methodNamed B.named
  have hlocks := B.notSynchronized
  subst hsz
  have hS : va_S (mA ad s.heap.size) s.heap s.heap [] := va_S.rf
  have hA : ∀ q, s.heap.size ≤ q → mA ad s.heap.size q := fun _ h => Or.inr h
  have hAc : ∀ j, j < 21 → mA ad s.heap.size (ad j) := fun j h => Or.inl ⟨j, h, rfl⟩
  have hl := lv_entry ([.ref (ad 0)]) (n := 1) (Nat.le_of_ble_eq_true rfl)
  rw [lg_entry_eq]
  generalize (lg_sl ([.ref (ad 0)]) ++ List.replicate (1 - (lg_sl ([.ref (ad 0)])).length) Slot.unset).toArray = ls at hl ⊢
  have hl : lv_has ls 1 [(0, .ref (ad 0))] := hl
  have hF3 : ∀ w ∈ wsX30, w ∈ wsX3_farmers := by decide +kernel
  have lf78 := hts (.fieldLink RX3 78 "HarvestLenderModel" "farmers" "I") (by decide +kernel)
  refine lv_aload_n hx hb dX3_farmers_0 rfl (lv_at hl 0 rfl) ?_
  refine lv_aload_n hx hb dX3_farmers_1 rfl (lv_at hl 0 rfl) ?_
  refine k_mg (v := .int (iI (σ 0 6))) hx hb hts hown hF3 hK hP 6 (by decide) lf78 dX3_farmers_2 rfl rfl ?_
  refine k_mci (As := [.int (iI (σ 0 6))]) (rest := []) ⟨hx, hb, hml, hown, hts⟩ (m_fine l G ad cy hI σ (σ 0 6) hv) (cwV 1 hts gX3_farmers_X3_fine rfl rfl rfl (by decide +kernel) ⟨Nat.le_of_ble_eq_true rfl, Nat.le_of_ble_eq_true rfl⟩) (mRecv hK hP) hAc hA hK hP hS rfl hl.1 rfl (Nat.le_of_ble_eq_true rfl) dX3_farmers_5 ⟨Nat.zero_le _, Nat.zero_le _⟩ (fun H locs hP hS => ?_)
  have eR : (σ 0 6) = σ 0 6 := by first | rfl | (simp only [up_s]; done) | (simp only [up_s]; repeat' split) <;> first | rfl | (exfalso; omega) | omega
  exact W.iret hx hb hr (fun t ht hW => ⟨⟨_, _, rfl, ⟨congrArg iI eR, rfl⟩, by rw [ht]; exact hP, va_K.moved hW.alike hK⟩, hS.F ht⟩) hS.2.2 dX3_farmers_8
set_option maxHeartbeats 4000000 in
set_option maxRecDepth 100000 in
theorem m_season (l : Launch) (G : va_G) (ad : Nat → Nat) (cy : Nat → ClassId) (hI : mI ad) (σ : Sg)  (hv : nB (σ 0 1)) : mMi l yX3_season wsX3_season ({ frames := 1, cells := 0, slots := 0, locals := 21 } : Room) G ad cy [.ref (ad 0)] σ (σ 0 1) (up σ 0 0 0) := by
  intro sz
  refine Met.ofW (cc := cX3_season) (maxL := 1) (ret := (some .int)) (by decide) rfl ?_
  intro p e s m args below meth cd s₁ B hml hv
  obtain ⟨rfl, hsz, hP, hK⟩ := hv
  have hx := B.exec
  have hb := B.bytes
  have hr := B.returns
  have hts := atoms_spec (ws := wsX3_season) B.pre
  have hown : s.vm.findClass RX3 = some m.cls := findClass_of_methodNamed B.named
  have hlocks := B.notSynchronized
  subst hsz
  have hS : va_S (mA ad s.heap.size) s.heap s.heap [] := va_S.rf
  have hA : ∀ q, s.heap.size ≤ q → mA ad s.heap.size q := fun _ h => Or.inr h
  have hAc : ∀ j, j < 21 → mA ad s.heap.size (ad j) := fun j h => Or.inl ⟨j, h, rfl⟩
  have hl := lv_entry ([.ref (ad 0)]) (n := 1) (Nat.le_of_ble_eq_true rfl)
  rw [lg_entry_eq]
  generalize (lg_sl ([.ref (ad 0)]) ++ List.replicate (1 - (lg_sl ([.ref (ad 0)])).length) Slot.unset).toArray = ls at hl ⊢
  have hl : lv_has ls 1 [(0, .ref (ad 0))] := hl
  have hF3 : ∀ w ∈ wsX30, w ∈ wsX3_season := by decide +kernel
  have lf128 := hts (.fieldLink RX3 128 "HarvestLenderModel" "season" "I") (by decide +kernel)
  refine lv_aload_n hx hb dX3_season_0 rfl (lv_at hl 0 rfl) ?_
  refine lv_aload_n hx hb dX3_season_1 rfl (lv_at hl 0 rfl) ?_
  refine k_mg (v := .int (iI (σ 0 1))) hx hb hts hown hF3 hK hP 1 (by decide) lf128 dX3_season_2 rfl rfl ?_
  refine k_mci (As := [.int (iI (σ 0 1))]) (rest := []) ⟨hx, hb, hml, hown, hts⟩ (m_fine l G ad cy hI σ (σ 0 1) hv) (cwV 1 hts gX3_season_X3_fine rfl rfl rfl (by decide +kernel) ⟨Nat.le_of_ble_eq_true rfl, Nat.le_of_ble_eq_true rfl⟩) (mRecv hK hP) hAc hA hK hP hS rfl hl.1 rfl (Nat.le_of_ble_eq_true rfl) dX3_season_5 ⟨Nat.zero_le _, Nat.zero_le _⟩ (fun H locs hP hS => ?_)
  have eR : (σ 0 1) = σ 0 1 := by first | rfl | (simp only [up_s]; done) | (simp only [up_s]; repeat' split) <;> first | rfl | (exfalso; omega) | omega
  exact W.iret hx hb hr (fun t ht hW => ⟨⟨_, _, rfl, ⟨congrArg iI eR, rfl⟩, by rw [ht]; exact hP, va_K.moved hW.alike hK⟩, hS.F ht⟩) hS.2.2 dX3_season_8
set_option maxHeartbeats 4000000 in
set_option maxRecDepth 100000 in
theorem m_stage (l : Launch) (G : va_G) (ad : Nat → Nat) (cy : Nat → ClassId) (hI : mI ad) (σ : Sg)  (hv : nB (σ 0 2)) : mMi l yX3_stage wsX3_stage ({ frames := 1, cells := 0, slots := 0, locals := 21 } : Room) G ad cy [.ref (ad 0)] σ (σ 0 2) (up σ 0 0 0) := by
  intro sz
  refine Met.ofW (cc := cX3_stage) (maxL := 1) (ret := (some .int)) (by decide) rfl ?_
  intro p e s m args below meth cd s₁ B hml hv
  obtain ⟨rfl, hsz, hP, hK⟩ := hv
  have hx := B.exec
  have hb := B.bytes
  have hr := B.returns
  have hts := atoms_spec (ws := wsX3_stage) B.pre
  have hown : s.vm.findClass RX3 = some m.cls := findClass_of_methodNamed B.named
  have hlocks := B.notSynchronized
  subst hsz
  have hS : va_S (mA ad s.heap.size) s.heap s.heap [] := va_S.rf
  have hA : ∀ q, s.heap.size ≤ q → mA ad s.heap.size q := fun _ h => Or.inr h
  have hAc : ∀ j, j < 21 → mA ad s.heap.size (ad j) := fun j h => Or.inl ⟨j, h, rfl⟩
  have hl := lv_entry ([.ref (ad 0)]) (n := 1) (Nat.le_of_ble_eq_true rfl)
  rw [lg_entry_eq]
  generalize (lg_sl ([.ref (ad 0)]) ++ List.replicate (1 - (lg_sl ([.ref (ad 0)])).length) Slot.unset).toArray = ls at hl ⊢
  have hl : lv_has ls 1 [(0, .ref (ad 0))] := hl
  have hF3 : ∀ w ∈ wsX30, w ∈ wsX3_stage := by decide +kernel
  have lf101 := hts (.fieldLink RX3 101 "HarvestLenderModel" "stage" "I") (by decide +kernel)
  refine lv_aload_n hx hb dX3_stage_0 rfl (lv_at hl 0 rfl) ?_
  refine lv_aload_n hx hb dX3_stage_1 rfl (lv_at hl 0 rfl) ?_
  refine k_mg (v := .int (iI (σ 0 2))) hx hb hts hown hF3 hK hP 2 (by decide) lf101 dX3_stage_2 rfl rfl ?_
  refine k_mci (As := [.int (iI (σ 0 2))]) (rest := []) ⟨hx, hb, hml, hown, hts⟩ (m_fine l G ad cy hI σ (σ 0 2) hv) (cwV 1 hts gX3_stage_X3_fine rfl rfl rfl (by decide +kernel) ⟨Nat.le_of_ble_eq_true rfl, Nat.le_of_ble_eq_true rfl⟩) (mRecv hK hP) hAc hA hK hP hS rfl hl.1 rfl (Nat.le_of_ble_eq_true rfl) dX3_stage_5 ⟨Nat.zero_le _, Nat.zero_le _⟩ (fun H locs hP hS => ?_)
  have eR : (σ 0 2) = σ 0 2 := by first | rfl | (simp only [up_s]; done) | (simp only [up_s]; repeat' split) <;> first | rfl | (exfalso; omega) | omega
  exact W.iret hx hb hr (fun t ht hW => ⟨⟨_, _, rfl, ⟨congrArg iI eR, rfl⟩, by rw [ht]; exact hP, va_K.moved hW.alike hK⟩, hS.F ht⟩) hS.2.2 dX3_stage_8
set_option maxHeartbeats 4000000 in
set_option maxRecDepth 100000 in
theorem m_clear (l : Launch) (G : va_G) (ad : Nat → Nat) (cy : Nat → ClassId) (hI : mI ad) (σ : Sg) (f : Int) (hf : nB f) (hf8 : 0 ≤ f ∧ f < 8) : mMv l yX3_clear wsX3_clear ({ frames := 0, cells := 0, slots := 0, locals := 0 } : Room) G ad cy [.ref (ad 0), .int (iI f)] σ (gClear σ f) := by
  intro sz
  refine Met.ofW (cc := cX3_clear) (maxL := 2) (ret := none) (by decide) rfl ?_
  intro p e s m args below meth cd s₁ B hml hv
  obtain ⟨rfl, hsz, hP, hK⟩ := hv
  have hx := B.exec
  have hb := B.bytes
  have hr := B.returns
  have hts := atoms_spec (ws := wsX3_clear) B.pre
  have hown : s.vm.findClass RX3 = some m.cls := findClass_of_methodNamed B.named
  have hlocks := B.notSynchronized
  subst hsz
  have hS : va_S (mA ad s.heap.size) s.heap s.heap [] := va_S.rf
  have hA : ∀ q, s.heap.size ≤ q → mA ad s.heap.size q := fun _ h => Or.inr h
  have hAc : ∀ j, j < 21 → mA ad s.heap.size (ad j) := fun j h => Or.inl ⟨j, h, rfl⟩
  have hl := lv_entry ([.ref (ad 0), .int (iI f)]) (n := 2) (Nat.le_of_ble_eq_true rfl)
  rw [lg_entry_eq]
  generalize (lg_sl ([.ref (ad 0), .int (iI f)]) ++ List.replicate (2 - (lg_sl ([.ref (ad 0), .int (iI f)])).length) Slot.unset).toArray = ls at hl ⊢
  have hl : lv_has ls 2 [(0, .ref (ad 0)), (1, .int (iI f))] := hl
  have hF3 : ∀ w ∈ wsX30, w ∈ wsX3_clear := by decide +kernel
  have lf46 := hts (.fieldLink RX3 46 "HarvestLenderModel" "crops" "[I") (by decide +kernel)
  have lf49 := hts (.fieldLink RX3 49 "HarvestLenderModel" "hectares" "[I") (by decide +kernel)
  have lf52 := hts (.fieldLink RX3 52 "HarvestLenderModel" "drawn" "[I") (by decide +kernel)
  have lf55 := hts (.fieldLink RX3 55 "HarvestLenderModel" "covers" "[I") (by decide +kernel)
  have lf58 := hts (.fieldLink RX3 58 "HarvestLenderModel" "yields" "[I") (by decide +kernel)
  refine lv_aload_n hx hb dX3_clear_0 rfl (lv_at hl 0 rfl) ?_
  refine k_mg (v := .ref (ad 13)) hx hb hts hown hF3 hK hP 16 (by decide) lf46 dX3_clear_1 rfl rfl ?_
  refine lv_iload_n hx hb dX3_clear_4 rfl (lv_at hl 1 rfl) ?_
  refine k_iconst hx hb dX3_clear_5 ?_
  refine k_mst (q := 13) (N := 8) (x := f) (v := -1) hx hb hI hAc hK hP hS (by decide) rfl (by omega) (by omega) (by decide) dX3_clear_6 (fun H locs hP hS => ?_)
  refine lv_aload_n hx hb dX3_clear_7 rfl (lv_at hl 0 rfl) ?_
  refine k_mg (v := .ref (ad 14)) hx hb hts hown hF3 hK hP 17 (by decide) lf49 dX3_clear_8 rfl rfl ?_
  refine lv_iload_n hx hb dX3_clear_11 rfl (lv_at hl 1 rfl) ?_
  refine k_iconst hx hb dX3_clear_12 ?_
  refine k_mst (q := 14) (N := 8) (x := f) (v := 0) hx hb hI hAc hK hP hS (by decide) rfl (by omega) (by omega) (by decide) dX3_clear_13 (fun H locs hP hS => ?_)
  refine lv_aload_n hx hb dX3_clear_14 rfl (lv_at hl 0 rfl) ?_
  refine k_mg (v := .ref (ad 15)) hx hb hts hown hF3 hK hP 18 (by decide) lf52 dX3_clear_15 rfl rfl ?_
  refine lv_iload_n hx hb dX3_clear_18 rfl (lv_at hl 1 rfl) ?_
  refine k_iconst hx hb dX3_clear_19 ?_
  refine k_mst (q := 15) (N := 8) (x := f) (v := 0) hx hb hI hAc hK hP hS (by decide) rfl (by omega) (by omega) (by decide) dX3_clear_20 (fun H locs hP hS => ?_)
  refine lv_aload_n hx hb dX3_clear_21 rfl (lv_at hl 0 rfl) ?_
  refine k_mg (v := .ref (ad 16)) hx hb hts hown hF3 hK hP 19 (by decide) lf55 dX3_clear_22 rfl rfl ?_
  refine lv_iload_n hx hb dX3_clear_25 rfl (lv_at hl 1 rfl) ?_
  refine k_iconst hx hb dX3_clear_26 ?_
  refine k_mst (q := 16) (N := 8) (x := f) (v := 0) hx hb hI hAc hK hP hS (by decide) rfl (by omega) (by omega) (by decide) dX3_clear_27 (fun H locs hP hS => ?_)
  refine lv_aload_n hx hb dX3_clear_28 rfl (lv_at hl 0 rfl) ?_
  refine k_mg (v := .ref (ad 17)) hx hb hts hown hF3 hK hP 20 (by decide) lf58 dX3_clear_29 rfl rfl ?_
  refine lv_iload_n hx hb dX3_clear_32 rfl (lv_at hl 1 rfl) ?_
  refine k_bipush hx hb dX3_clear_33 (by decide) ?_
  refine k_mst (q := 17) (N := 8) (x := f) (v := 100) hx hb hI hAc hK hP hS (by decide) rfl (by omega) (by omega) (by decide) dX3_clear_35 (fun H locs hP hS => ?_)
  have eF : up (up (up (up (up σ 13 f.toNat (-1)) 14 f.toNat 0) 15 f.toNat 0) 16 f.toNat 0) 17 f.toNat 100 = gClear σ f := by first | rfl | (simp only [up_s]; done) | (simp only [up_s]; repeat' split) <;> first | rfl | (exfalso; omega) | omega
  rw [eF] at hP
  exact W.vret hx hb hr (fun t ht hW => ⟨⟨_, rfl, rfl, by rw [ht]; exact hP, va_K.moved hW.alike hK⟩, hS.F ht⟩) hS.2.2 dX3_clear_36
set_option maxHeartbeats 4000000 in
set_option maxRecDepth 100000 in
theorem m_lower (l : Launch) (G : va_G) (ad : Nat → Nat) (cy : Nat → ClassId) (hI : mI ad) (σ : Sg) (f x src : Int) (hf : nB f) (hx : nB x) (hsrc : nB src) (hf8 : 0 ≤ f ∧ f < 8) (hs5 : 0 ≤ src ∧ src < 5) : mMv l yX3_lower wsX3_lower ({ frames := 0, cells := 0, slots := 0, locals := 0 } : Room) G ad cy [.ref (ad 0), .int (iI f), .int (iI x), .int (iI src)] σ (gLower σ f x src) := by
  intro sz
  refine Met.ofW (cc := cX3_lower) (maxL := 4) (ret := none) (by decide) rfl ?_
  intro p e s m args below meth cd s₁ B hml hv
  obtain ⟨rfl, hsz, hP, hK⟩ := hv
  have hx := B.exec
  have hb := B.bytes
  have hr := B.returns
  have hts := atoms_spec (ws := wsX3_lower) B.pre
  have hown : s.vm.findClass RX3 = some m.cls := findClass_of_methodNamed B.named
  have hlocks := B.notSynchronized
  subst hsz
  have hS : va_S (mA ad s.heap.size) s.heap s.heap [] := va_S.rf
  have hA : ∀ q, s.heap.size ≤ q → mA ad s.heap.size q := fun _ h => Or.inr h
  have hAc : ∀ j, j < 21 → mA ad s.heap.size (ad j) := fun j h => Or.inl ⟨j, h, rfl⟩
  have hl := lv_entry ([.ref (ad 0), .int (iI f), .int (iI x), .int (iI src)]) (n := 4) (Nat.le_of_ble_eq_true rfl)
  rw [lg_entry_eq]
  generalize (lg_sl ([.ref (ad 0), .int (iI f), .int (iI x), .int (iI src)]) ++ List.replicate (4 - (lg_sl ([.ref (ad 0), .int (iI f), .int (iI x), .int (iI src)])).length) Slot.unset).toArray = ls at hl ⊢
  have hl : lv_has ls 4 [(0, .ref (ad 0)), (1, .int (iI f)), (2, .int (iI x)), (3, .int (iI src))] := hl
  have hF3 : ∀ w ∈ wsX30, w ∈ wsX3_lower := by decide +kernel
  have lf25 := hts (.fieldLink RX3 25 "HarvestLenderModel" "debts" "[I") (by decide +kernel)
  have lf64 := hts (.fieldLink RX3 64 "HarvestLenderModel" "repaidOf" "[I") (by decide +kernel)
  refine lv_aload_n hx hb dX3_lower_0 rfl (lv_at hl 0 rfl) ?_
  refine k_mg (v := .ref (ad 6)) hx hb hts hown hF3 hK hP 9 (by decide) lf25 dX3_lower_1 rfl rfl ?_
  refine lv_iload_n hx hb dX3_lower_4 rfl (lv_at hl 1 rfl) ?_
  refine lv_dup2_11 hx hb dX3_lower_5 rfl rfl ?_
  refine k_mld (q := 6) (N := 8) (x := f) hx hb hK hP (by decide) rfl (by omega) (by omega) (by decide) dX3_lower_6 ?_
  refine lv_iload_n hx hb dX3_lower_7 rfl (lv_at hl 2 rfl) ?_
  refine k_isub hx hb dX3_lower_8 ?_
  refine k_mst (q := 6) (N := 8) (x := f) (v := (σ 6 f.toNat) - x) hx hb hI hAc hK hP hS (by decide) rfl (by omega) (by omega) (by decide) dX3_lower_9 (fun H locs hP hS => ?_)
  refine lv_aload_n hx hb dX3_lower_10 rfl (lv_at hl 0 rfl) ?_
  refine k_mg (v := .ref (ad 19)) hx hb hts hown hF3 hK hP 22 (by decide) lf64 dX3_lower_11 rfl rfl ?_
  refine k_iconst hx hb dX3_lower_14 ?_
  refine lv_iload_n hx hb dX3_lower_15 rfl (lv_at hl 1 rfl) ?_
  refine k_imul hx hb dX3_lower_16 ?_
  refine lv_iload_n hx hb dX3_lower_17 rfl (lv_at hl 3 rfl) ?_
  refine k_iadd hx hb dX3_lower_18 ?_
  refine lv_dup2_11 hx hb dX3_lower_19 rfl rfl ?_
  refine k_mld (q := 19) (N := 40) (x := (5 * f) + src) hx hb hK hP (by decide) rfl (by omega) (by omega) (by decide) dX3_lower_20 ?_
  rw [show (up σ 6 f.toNat ((σ 6 f.toNat) - x)) 19 ((5 * f) + src).toNat = σ 19 (((5 * f) + src).toNat) by simp [up]]
  refine lv_iload_n hx hb dX3_lower_21 rfl (lv_at hl 2 rfl) ?_
  refine k_iadd hx hb dX3_lower_22 ?_
  refine k_mst (q := 19) (N := 40) (x := (5 * f) + src) (v := (σ 19 (((5 * f) + src).toNat)) + x) hx hb hI hAc hK hP hS (by decide) rfl (by omega) (by omega) (by decide) dX3_lower_23 (fun H locs hP hS => ?_)
  have eF : up (up σ 6 f.toNat ((σ 6 f.toNat) - x)) 19 (((5 * f) + src).toNat) ((σ 19 (((5 * f) + src).toNat)) + x) = gLower σ f x src := by first | rfl | (simp only [gLower, up_s]; done) | (simp only [gLower, up_s]; repeat' split) <;> first | rfl | (exfalso; omega) | omega
  rw [eF] at hP
  exact W.vret hx hb hr (fun t ht hW => ⟨⟨_, rfl, rfl, by rw [ht]; exact hP, va_K.moved hW.alike hK⟩, hS.F ht⟩) hS.2.2 dX3_lower_24
set_option maxHeartbeats 4000000 in
set_option maxRecDepth 100000 in
theorem m_come (l : Launch) (G : va_G) (ad : Nat → Nat) (cy : Nat → ClassId) (hI : mI ad) (σ : Sg) (f x src : Int) (hf : nB f) (hx : nB x) (hsrc : nB src) (hf8 : 0 ≤ f ∧ f < 8) (hs5 : 0 ≤ src ∧ src < 5) (h6 : nB (σ 6 f.toNat)) : mMv l yX3_come wsX3_come ({ frames := 1, cells := 0, slots := 0, locals := 23 } : Room) G ad cy [.ref (ad 0), .int (iI f), .int (iI x), .int (iI src)] σ (gCome σ f x src) := by
  intro sz
  refine Met.ofW (cc := cX3_come) (maxL := 5) (ret := none) (by decide) rfl ?_
  intro p e s m args below meth cd s₁ B hml hv
  obtain ⟨rfl, hsz, hP, hK⟩ := hv
  have hx := B.exec
  have hb := B.bytes
  have hr := B.returns
  have hts := atoms_spec (ws := wsX3_come) B.pre
  have hown : s.vm.findClass RX3 = some m.cls := findClass_of_methodNamed B.named
  have hlocks := B.notSynchronized
  subst hsz
  have hS : va_S (mA ad s.heap.size) s.heap s.heap [] := va_S.rf
  have hA : ∀ q, s.heap.size ≤ q → mA ad s.heap.size q := fun _ h => Or.inr h
  have hAc : ∀ j, j < 21 → mA ad s.heap.size (ad j) := fun j h => Or.inl ⟨j, h, rfl⟩
  have hl := lv_entry ([.ref (ad 0), .int (iI f), .int (iI x), .int (iI src)]) (n := 5) (Nat.le_of_ble_eq_true rfl)
  rw [lg_entry_eq]
  generalize (lg_sl ([.ref (ad 0), .int (iI f), .int (iI x), .int (iI src)]) ++ List.replicate (5 - (lg_sl ([.ref (ad 0), .int (iI f), .int (iI x), .int (iI src)])).length) Slot.unset).toArray = ls at hl ⊢
  have hl : lv_has ls 5 [(0, .ref (ad 0)), (1, .int (iI f)), (2, .int (iI x)), (3, .int (iI src))] := hl
  have hF3 : ∀ w ∈ wsX30, w ∈ wsX3_come := by decide +kernel
  have lf22 := hts (.fieldLink RX3 22 "HarvestLenderModel" "purses" "[I") (by decide +kernel)
  have lf25 := hts (.fieldLink RX3 25 "HarvestLenderModel" "debts" "[I") (by decide +kernel)
  have J_1 : W p l e (headSpec wsX3_come ({ frames := 1, cells := 0, slots := 0, locals := 23 } : Room)).room s m ([.ref (ad 0), .int (iI f), .int (iI x), .int (iI src)] : List Value).toArray below meth cd s.heap [] 0 0 (MQ below (va_Qv (fun u9 : Sg => u9 = gCome σ f x src) (mB G ad cy) (mA ad s.heap.size)) ([.ref (ad 0), .int (iI f), .int (iI x), .int (iI src)] : List Value).toArray s 0 0 (mA ad s.heap.size)) (F0 m 20 ls [.int (iI (mn (σ 6 f.toNat) x))]) := by
    refine lv_istore (lv' := [(4, .int (iI (mn (σ 6 f.toNat) x))), (0, .ref (ad 0)), (1, .int (iI f)), (2, .int (iI x)), (3, .int (iI src))]) hx hb dX3_come_20 hl (by decide) rfl (fun ls hl => ?_)
    refine lv_aload_n hx hb dX3_come_22 rfl (lv_at hl 1 rfl) ?_
    refine lv_iload_n hx hb dX3_come_23 rfl (lv_at hl 2 rfl) ?_
    refine lv_iload hx hb dX3_come_24 (lv_at hl 0 rfl) ?_
    refine lv_iload_n hx hb dX3_come_26 rfl (lv_at hl 4 rfl) ?_
    refine k_mcv (As := [.int (iI f), .int (iI (mn (σ 6 f.toNat) x)), .int (iI src)]) (rest := []) ⟨hx, hb, hml, hown, hts⟩ (m_lower l G ad cy hI σ f (mn (σ 6 f.toNat) x) src (by omega) (by have m1 := mn_le2 (σ 6 f.toNat) x; have m2 := mn_ge (σ 6 f.toNat) x (-2147483648) (by omega) (by omega); omega) (by omega) (by omega) (by omega)) (cwV 3 hts gX3_come_X3_lower rfl rfl rfl (by decide +kernel) ⟨Nat.le_of_ble_eq_true rfl, Nat.le_of_ble_eq_true rfl⟩) (mRecv hK hP) hAc hA hK hP hS rfl hl.1 rfl (Nat.le_of_ble_eq_true rfl) dX3_come_27 ⟨Nat.zero_le _, Nat.zero_le _⟩ (fun H locs hP hS => ?_)
    refine lv_aload_n hx hb dX3_come_30 rfl (lv_at hl 1 rfl) ?_
    refine k_mg (v := .ref (ad 5)) hx hb hts hown hF3 hK hP 8 (by decide) lf22 dX3_come_31 rfl rfl ?_
    refine lv_iload_n hx hb dX3_come_34 rfl (lv_at hl 2 rfl) ?_
    refine lv_dup2_11 hx hb dX3_come_35 rfl rfl ?_
    refine k_mld (q := 5) (N := 8) (x := f) hx hb hK hP (by decide) rfl (by omega) (by omega) (by decide) dX3_come_36 ?_
    rw [show (gLower σ f (mn (σ 6 f.toNat) x) src) 5 (f).toNat = σ 5 f.toNat by simp [gLower, up]]
    refine lv_iload_n hx hb dX3_come_37 rfl (lv_at hl 3 rfl) ?_
    refine lv_iload hx hb dX3_come_38 (lv_at hl 0 rfl) ?_
    refine k_isub hx hb dX3_come_40 ?_
    refine k_iadd hx hb dX3_come_41 ?_
    refine k_mst (q := 5) (N := 8) (x := f) (v := (σ 5 f.toNat) + (x - (mn (σ 6 f.toNat) x))) hx hb hI hAc hK hP hS (by decide) rfl (by omega) (by omega) (by decide) dX3_come_42 (fun H locs hP hS => ?_)
    have eF : up (gLower σ f (mn (σ 6 f.toNat) x) src) 5 f.toNat ((σ 5 f.toNat) + (x - (mn (σ 6 f.toNat) x))) = gCome σ f x src := by first | rfl | (simp only [gCome, up_s]; done) | (simp only [gCome, up_s]; repeat' split) <;> first | rfl | (exfalso; omega) | omega
    rw [eF] at hP
    exact W.vret hx hb hr (fun t ht hW => ⟨⟨_, rfl, rfl, by rw [ht]; exact hP, va_K.moved hW.alike hK⟩, hS.F ht⟩) hS.2.2 dX3_come_43
  refine lv_iload_n hx hb dX3_come_0 rfl (lv_at hl 2 rfl) ?_
  refine lv_aload_n hx hb dX3_come_1 rfl (lv_at hl 0 rfl) ?_
  refine k_mg (v := .ref (ad 6)) hx hb hts hown hF3 hK hP 9 (by decide) lf25 dX3_come_2 rfl rfl ?_
  refine lv_iload_n hx hb dX3_come_5 rfl (lv_at hl 1 rfl) ?_
  refine k_mld (q := 6) (N := 8) (x := f) hx hb hK hP (by decide) rfl (by omega) (by omega) (by decide) dX3_come_6 ?_
  refine k_icmp_ge (tgt := 14) hx hb dX3_come_7 (by decide) (by omega) (by omega) (fun c_2 => ?_) (fun c_2 => ?_)
  · refine lv_aload_n hx hb dX3_come_14 rfl (lv_at hl 0 rfl) ?_
    refine k_mg (v := .ref (ad 6)) hx hb hts hown hF3 hK hP 9 (by decide) lf25 dX3_come_15 rfl rfl ?_
    refine lv_iload_n hx hb dX3_come_18 rfl (lv_at hl 1 rfl) ?_
    refine k_mld (q := 6) (N := 8) (x := f) hx hb hK hP (by decide) rfl (by omega) (by omega) (by decide) dX3_come_19 ?_
    exact (by have e9 : mn (σ 6 f.toNat) x = σ 6 f.toNat := gMin_eq (by omega); rw [e9] at J_1; exact J_1)
  · refine lv_iload_n hx hb dX3_come_10 rfl (lv_at hl 2 rfl) ?_
    refine lv_goto (tgt := 20) hx hb dX3_come_11 (by decide) ?_
    exact (by have e9 : mn (σ 6 f.toNat) x = x := gMin_eq (by omega); rw [e9] at J_1; exact J_1)
set_option maxHeartbeats 4000000 in
set_option maxRecDepth 100000 in
theorem m_charge (l : Launch) (G : va_G) (ad : Nat → Nat) (cy : Nat → ClassId) (hI : mI ad) (σ : Sg) (f x : Int) (hf : nB f) (hx : nB x) (hf8 : 0 ≤ f ∧ f < 8) : mMv l yX3_charge wsX3_charge ({ frames := 0, cells := 0, slots := 0, locals := 0 } : Room) G ad cy [.ref (ad 0), .int (iI f), .int (iI x)] σ (gCharge σ f x) := by
  intro sz
  refine Met.ofW (cc := cX3_charge) (maxL := 3) (ret := none) (by decide) rfl ?_
  intro p e s m args below meth cd s₁ B hml hv
  obtain ⟨rfl, hsz, hP, hK⟩ := hv
  have hx := B.exec
  have hb := B.bytes
  have hr := B.returns
  have hts := atoms_spec (ws := wsX3_charge) B.pre
  have hown : s.vm.findClass RX3 = some m.cls := findClass_of_methodNamed B.named
  have hlocks := B.notSynchronized
  subst hsz
  have hS : va_S (mA ad s.heap.size) s.heap s.heap [] := va_S.rf
  have hA : ∀ q, s.heap.size ≤ q → mA ad s.heap.size q := fun _ h => Or.inr h
  have hAc : ∀ j, j < 21 → mA ad s.heap.size (ad j) := fun j h => Or.inl ⟨j, h, rfl⟩
  have hl := lv_entry ([.ref (ad 0), .int (iI f), .int (iI x)]) (n := 3) (Nat.le_of_ble_eq_true rfl)
  rw [lg_entry_eq]
  generalize (lg_sl ([.ref (ad 0), .int (iI f), .int (iI x)]) ++ List.replicate (3 - (lg_sl ([.ref (ad 0), .int (iI f), .int (iI x)])).length) Slot.unset).toArray = ls at hl ⊢
  have hl : lv_has ls 3 [(0, .ref (ad 0)), (1, .int (iI f)), (2, .int (iI x))] := hl
  have hF3 : ∀ w ∈ wsX30, w ∈ wsX3_charge := by decide +kernel
  have lf25 := hts (.fieldLink RX3 25 "HarvestLenderModel" "debts" "[I") (by decide +kernel)
  have lf67 := hts (.fieldLink RX3 67 "HarvestLenderModel" "charges" "[I") (by decide +kernel)
  refine lv_aload_n hx hb dX3_charge_0 rfl (lv_at hl 0 rfl) ?_
  refine k_mg (v := .ref (ad 6)) hx hb hts hown hF3 hK hP 9 (by decide) lf25 dX3_charge_1 rfl rfl ?_
  refine lv_iload_n hx hb dX3_charge_4 rfl (lv_at hl 1 rfl) ?_
  refine lv_dup2_11 hx hb dX3_charge_5 rfl rfl ?_
  refine k_mld (q := 6) (N := 8) (x := f) hx hb hK hP (by decide) rfl (by omega) (by omega) (by decide) dX3_charge_6 ?_
  refine lv_iload_n hx hb dX3_charge_7 rfl (lv_at hl 2 rfl) ?_
  refine k_iadd hx hb dX3_charge_8 ?_
  refine k_mst (q := 6) (N := 8) (x := f) (v := (σ 6 f.toNat) + x) hx hb hI hAc hK hP hS (by decide) rfl (by omega) (by omega) (by decide) dX3_charge_9 (fun H locs hP hS => ?_)
  refine lv_aload_n hx hb dX3_charge_10 rfl (lv_at hl 0 rfl) ?_
  refine k_mg (v := .ref (ad 20)) hx hb hts hown hF3 hK hP 23 (by decide) lf67 dX3_charge_11 rfl rfl ?_
  refine lv_iload_n hx hb dX3_charge_14 rfl (lv_at hl 1 rfl) ?_
  refine lv_dup2_11 hx hb dX3_charge_15 rfl rfl ?_
  refine k_mld (q := 20) (N := 8) (x := f) hx hb hK hP (by decide) rfl (by omega) (by omega) (by decide) dX3_charge_16 ?_
  rw [show (up σ 6 f.toNat ((σ 6 f.toNat) + x)) 20 (f).toNat = σ 20 f.toNat by simp [up]]
  refine lv_iload_n hx hb dX3_charge_17 rfl (lv_at hl 2 rfl) ?_
  refine k_iadd hx hb dX3_charge_18 ?_
  refine k_mst (q := 20) (N := 8) (x := f) (v := (σ 20 f.toNat) + x) hx hb hI hAc hK hP hS (by decide) rfl (by omega) (by omega) (by decide) dX3_charge_19 (fun H locs hP hS => ?_)
  have eF : up (up σ 6 f.toNat ((σ 6 f.toNat) + x)) 20 f.toNat ((σ 20 f.toNat) + x) = gCharge σ f x := by first | rfl | (simp only [gCharge, up_s]; done) | (simp only [gCharge, up_s]; repeat' split) <;> first | rfl | (exfalso; omega) | omega
  rw [eF] at hP
  exact W.vret hx hb hr (fun t ht hW => ⟨⟨_, rfl, rfl, by rw [ht]; exact hP, va_K.moved hW.alike hK⟩, hS.F ht⟩) hS.2.2 dX3_charge_20
set_option maxHeartbeats 4000000 in
set_option maxRecDepth 100000 in
theorem m_limitOf (l : Launch) (G : va_G) (ad : Nat → Nat) (cy : Nat → ClassId) (hI : mI ad) (σ : Sg) (f : Int) (hf : nB f) (hf8 : 0 ≤ f ∧ f < 8) (hst : 0 ≤ σ 0 2 ∧ σ 0 2 ≤ 4) (h13 : -1 ≤ σ 13 f.toNat ∧ σ 13 f.toNat < 3) : mMi l yX3_limitOf wsX3_limitOf ({ frames := 0, cells := 0, slots := 0, locals := 0 } : Room) G ad cy [.ref (ad 0), .int (iI f)] σ (gLimit σ f) σ := by
  intro sz
  refine Met.ofW (cc := cX3_limitOf) (maxL := 4) (ret := (some .int)) (by decide) rfl ?_
  intro p e s m args below meth cd s₁ B hml hv
  obtain ⟨rfl, hsz, hP, hK⟩ := hv
  have hx := B.exec
  have hb := B.bytes
  have hr := B.returns
  have hts := atoms_spec (ws := wsX3_limitOf) B.pre
  have hown : s.vm.findClass RX3 = some m.cls := findClass_of_methodNamed B.named
  have hlocks := B.notSynchronized
  subst hsz
  have hS : va_S (mA ad s.heap.size) s.heap s.heap [] := va_S.rf
  have hA : ∀ q, s.heap.size ≤ q → mA ad s.heap.size q := fun _ h => Or.inr h
  have hAc : ∀ j, j < 21 → mA ad s.heap.size (ad j) := fun j h => Or.inl ⟨j, h, rfl⟩
  have hl := lv_entry ([.ref (ad 0), .int (iI f)]) (n := 4) (Nat.le_of_ble_eq_true rfl)
  rw [lg_entry_eq]
  generalize (lg_sl ([.ref (ad 0), .int (iI f)]) ++ List.replicate (4 - (lg_sl ([.ref (ad 0), .int (iI f)])).length) Slot.unset).toArray = ls at hl ⊢
  have hl : lv_has ls 4 [(0, .ref (ad 0)), (1, .int (iI f))] := hl
  have hF3 : ∀ w ∈ wsX30, w ∈ wsX3_limitOf := by decide +kernel
  have lf101 := hts (.fieldLink RX3 101 "HarvestLenderModel" "stage" "I") (by decide +kernel)
  have lf49 := hts (.fieldLink RX3 49 "HarvestLenderModel" "hectares" "[I") (by decide +kernel)
  have lf46 := hts (.fieldLink RX3 46 "HarvestLenderModel" "crops" "[I") (by decide +kernel)
  have lf7 := hts (.fieldLink RX3 7 "HarvestLenderModel" "needs" "[I") (by decide +kernel)
  have loop : ∀ (d k : Nat), k ≤ 4 → 4 < k + d → ((k : Int) ≤ σ 0 2 + 1) → (σ 13 f.toNat = -1 → k = 0) → ∀ (H : Heap) (locs : List Loc) (ls : Array Slot), va_P G vwCl (mW ad cy σ) H → va_S (mA ad s.heap.size) s.heap H locs → lv_has ls 4 [(0, .ref (ad 0)), (1, .int (iI f)), (2, .int (iI (gNeed σ (σ 13 f.toNat) k))), (3, .int (iI (k : Int)))] → W p l e (headSpec wsX3_limitOf ({ frames := 0, cells := 0, slots := 0, locals := 0 } : Room)).room s m ([.ref (ad 0), .int (iI f)] : List Value).toArray below meth cd H locs 0 0 (MQ below (va_Qi (fun (v9 : Int32) (u9 : Sg) => v9 = iI (gLimit σ f) ∧ u9 = σ) (mB G ad cy) (mA ad s.heap.size)) ([.ref (ad 0), .int (iI f)] : List Value).toArray s 0 0 (mA ad s.heap.size)) (F0 m 4 ls []) := by
    intro d
    induction d with
    | zero => intro k h1 h2; exact absurd h2 (by omega)
    | succ d ih =>
      intro k hk hd hq0 hq1 H locs ls hP hS hl
      refine lv_iload_n hx hb dX3_limitOf_4 rfl (lv_at hl 3 rfl) ?_
      refine lv_aload_n hx hb dX3_limitOf_5 rfl (lv_at hl 0 rfl) ?_
      refine k_mg (v := .int (iI (σ 0 2))) hx hb hts hown hF3 hK hP 2 (by decide) lf101 dX3_limitOf_6 rfl rfl ?_
      refine k_icmp_gt (tgt := 51) hx hb dX3_limitOf_9 (by decide) (by omega) (by omega) (fun c_1 => ?_) (fun c_1 => ?_)
      · refine lv_iload_n hx hb dX3_limitOf_51 rfl (lv_at hl 2 rfl) ?_
        refine lv_aload_n hx hb dX3_limitOf_52 rfl (lv_at hl 0 rfl) ?_
        refine k_mg (v := .ref (ad 14)) hx hb hts hown hF3 hK hP 17 (by decide) lf49 dX3_limitOf_53 rfl rfl ?_
        refine lv_iload_n hx hb dX3_limitOf_56 rfl (lv_at hl 1 rfl) ?_
        refine k_mld (q := 14) (N := 8) (x := f) hx hb hK hP (by decide) rfl (by omega) (by omega) (by decide) dX3_limitOf_57 ?_
        refine k_imul hx hb dX3_limitOf_58 ?_
        have eR : (gNeed σ (σ 13 f.toNat) k) * (σ 14 f.toNat) = gLimit σ f := by (unfold gLimit gLim0; by_cases e13 : σ 13 f.toNat = -1 <;> first | (rw [if_pos e13, show k = 0 by omega]; rfl) | (rw [if_neg e13, show (mn 4 (σ 0 2 + 1)).toNat = k by (unfold mn; split <;> omega)]))
        exact W.iret hx hb hr (fun t ht hW => ⟨⟨_, _, rfl, ⟨congrArg iI eR, rfl⟩, by rw [ht]; exact hP, va_K.moved hW.alike hK⟩, hS.F ht⟩) hS.2.2 dX3_limitOf_59
      · refine lv_iload_n hx hb dX3_limitOf_12 rfl (lv_at hl 3 rfl) ?_
        refine k_iconst hx hb dX3_limitOf_13 ?_
        refine k_icmp_ge (tgt := 51) hx hb dX3_limitOf_14 (by decide) (by omega) (by decide) (fun c_2 => ?_) (fun c_2 => ?_)
        · refine lv_iload_n hx hb dX3_limitOf_51 rfl (lv_at hl 2 rfl) ?_
          refine lv_aload_n hx hb dX3_limitOf_52 rfl (lv_at hl 0 rfl) ?_
          refine k_mg (v := .ref (ad 14)) hx hb hts hown hF3 hK hP 17 (by decide) lf49 dX3_limitOf_53 rfl rfl ?_
          refine lv_iload_n hx hb dX3_limitOf_56 rfl (lv_at hl 1 rfl) ?_
          refine k_mld (q := 14) (N := 8) (x := f) hx hb hK hP (by decide) rfl (by omega) (by omega) (by decide) dX3_limitOf_57 ?_
          refine k_imul hx hb dX3_limitOf_58 ?_
          have eR : (gNeed σ (σ 13 f.toNat) k) * (σ 14 f.toNat) = gLimit σ f := by (unfold gLimit gLim0; by_cases e13 : σ 13 f.toNat = -1 <;> first | (rw [if_pos e13, show k = 0 by omega]; rfl) | (rw [if_neg e13, show (mn 4 (σ 0 2 + 1)).toNat = k by (unfold mn; split <;> omega)]))
          exact W.iret hx hb hr (fun t ht hW => ⟨⟨_, _, rfl, ⟨congrArg iI eR, rfl⟩, by rw [ht]; exact hP, va_K.moved hW.alike hK⟩, hS.F ht⟩) hS.2.2 dX3_limitOf_59
        · refine lv_aload_n hx hb dX3_limitOf_17 rfl (lv_at hl 0 rfl) ?_
          refine k_mg (v := .ref (ad 13)) hx hb hts hown hF3 hK hP 16 (by decide) lf46 dX3_limitOf_18 rfl rfl ?_
          refine lv_iload_n hx hb dX3_limitOf_21 rfl (lv_at hl 1 rfl) ?_
          refine k_mld (q := 13) (N := 8) (x := f) hx hb hK hP (by decide) rfl (by omega) (by omega) (by decide) dX3_limitOf_22 ?_
          refine k_iconst hx hb dX3_limitOf_23 ?_
          refine k_icmp_eq (tgt := 51) hx hb dX3_limitOf_24 (by decide) (by omega) (by decide) (fun c_3 => ?_) (fun c_3 => ?_)
          · refine lv_iload_n hx hb dX3_limitOf_51 rfl (lv_at hl 2 rfl) ?_
            refine lv_aload_n hx hb dX3_limitOf_52 rfl (lv_at hl 0 rfl) ?_
            refine k_mg (v := .ref (ad 14)) hx hb hts hown hF3 hK hP 17 (by decide) lf49 dX3_limitOf_53 rfl rfl ?_
            refine lv_iload_n hx hb dX3_limitOf_56 rfl (lv_at hl 1 rfl) ?_
            refine k_mld (q := 14) (N := 8) (x := f) hx hb hK hP (by decide) rfl (by omega) (by omega) (by decide) dX3_limitOf_57 ?_
            refine k_imul hx hb dX3_limitOf_58 ?_
            have eR : (gNeed σ (σ 13 f.toNat) k) * (σ 14 f.toNat) = gLimit σ f := by (unfold gLimit gLim0; by_cases e13 : σ 13 f.toNat = -1 <;> first | (rw [if_pos e13, show k = 0 by omega]; rfl) | (rw [if_neg e13, show (mn 4 (σ 0 2 + 1)).toNat = k by (unfold mn; split <;> omega)]))
            exact W.iret hx hb hr (fun t ht hW => ⟨⟨_, _, rfl, ⟨congrArg iI eR, rfl⟩, by rw [ht]; exact hP, va_K.moved hW.alike hK⟩, hS.F ht⟩) hS.2.2 dX3_limitOf_59
          · refine lv_iload_n hx hb dX3_limitOf_27 rfl (lv_at hl 2 rfl) ?_
            refine lv_aload_n hx hb dX3_limitOf_28 rfl (lv_at hl 0 rfl) ?_
            refine k_mg (v := .ref (ad 1)) hx hb hts hown hF3 hK hP 3 (by decide) lf7 dX3_limitOf_29 rfl rfl ?_
            refine k_iconst hx hb dX3_limitOf_32 ?_
            refine lv_aload_n hx hb dX3_limitOf_33 rfl (lv_at hl 0 rfl) ?_
            refine k_mg (v := .ref (ad 13)) hx hb hts hown hF3 hK hP 16 (by decide) lf46 dX3_limitOf_34 rfl rfl ?_
            refine lv_iload_n hx hb dX3_limitOf_37 rfl (lv_at hl 1 rfl) ?_
            refine k_mld (q := 13) (N := 8) (x := f) hx hb hK hP (by decide) rfl (by omega) (by omega) (by decide) dX3_limitOf_38 ?_
            refine k_imul hx hb dX3_limitOf_39 ?_
            refine lv_iload_n hx hb dX3_limitOf_40 rfl (lv_at hl 3 rfl) ?_
            refine k_iadd hx hb dX3_limitOf_41 ?_
            refine k_mld (q := 1) (N := 12) (x := (4 * (σ 13 f.toNat)) + (k : Int)) hx hb hK hP (by decide) rfl (by omega) (by omega) (by decide) dX3_limitOf_42 ?_
            refine k_iadd hx hb dX3_limitOf_43 ?_
            refine lv_istore_n (lv' := [(2, .int (iI ((gNeed σ (σ 13 f.toNat) k) + (σ 1 (((4 * (σ 13 f.toNat)) + (k : Int)).toNat))))), (0, .ref (ad 0)), (1, .int (iI f)), (3, .int (iI (k : Int)))]) hx hb dX3_limitOf_44 rfl hl (by decide) rfl (fun ls hl => ?_)
            refine lv_iinc (v := iI ((k : Int) + 1)) (lv' := [(3, .int (iI ((k : Int) + 1))), (2, .int (iI ((gNeed σ (σ 13 f.toNat) k) + (σ 1 (((4 * (σ 13 f.toNat)) + (k : Int)).toNat))))), (0, .ref (ad 0)), (1, .int (iI f))]) hx hb dX3_limitOf_45 hl (k := 3) rfl (iI_add _ _) (by decide) rfl (fun ls hl => ?_)
            refine lv_goto (tgt := 4) hx hb dX3_limitOf_48 (by decide) ?_
            have q4 : gNeed σ (σ 13 f.toNat) (k + 1) = (gNeed σ (σ 13 f.toNat) k) + (σ 1 (((4 * (σ 13 f.toNat)) + (k : Int)).toNat)) := by rfl
            exact ih (k + 1) (by omega) (by omega) (by omega) (fun h => by first | rfl | (exfalso; omega)) _ _ _ hP hS (by rw [q4]; exact lv_sub hl [2, 3, 1, 0] rfl)
  refine k_iconst hx hb dX3_limitOf_0 ?_
  refine lv_istore_n (lv' := [(2, .int (iI 0)), (0, .ref (ad 0)), (1, .int (iI f))]) hx hb dX3_limitOf_1 rfl hl (by decide) rfl (fun ls hl => ?_)
  refine k_iconst hx hb dX3_limitOf_2 ?_
  refine lv_istore_n (lv' := [(3, .int (iI 0)), (2, .int (iI 0)), (0, .ref (ad 0)), (1, .int (iI f))]) hx hb dX3_limitOf_3 rfl hl (by decide) rfl (fun ls hl => ?_)
  have q5 : gNeed σ (σ 13 f.toNat) 0 = 0 := by rfl
  exact loop (4 + 1) 0 (Nat.zero_le _) (by omega) (by omega) (fun h => by first | rfl | (exfalso; omega)) _ _ _ hP hS (by rw [q5]; exact lv_sub hl [2, 3, 1, 0] rfl)
set_option maxHeartbeats 4000000 in
set_option maxRecDepth 100000 in
theorem m_harvest (l : Launch) (G : va_G) (ad : Nat → Nat) (cy : Nat → ClassId) (hI : mI ad) (σ : Sg) (f : Int) (hf : nB f) (hf8 : 0 ≤ f ∧ f < 8) (h13 : 0 ≤ σ 13 f.toNat ∧ σ 13 f.toNat < 3) (h14 : 0 ≤ σ 14 f.toNat ∧ σ 14 f.toNat ≤ 50) (h3 : 0 ≤ σ 3 (σ 13 f.toNat).toNat ∧ σ 3 (σ 13 f.toNat).toNat ≤ 100) (h17 : 0 ≤ σ 17 f.toNat ∧ σ 17 f.toNat ≤ 200) (h16 : 0 ≤ σ 16 f.toNat ∧ σ 16 f.toNat ≤ 90) (h2 : 0 ≤ σ 2 (σ 13 f.toNat).toNat ∧ σ 2 (σ 13 f.toNat).toNat ≤ 5000) (h6 : nB (σ 6 f.toNat)) : mMv l yX3_harvest wsX3_harvest ({ frames := 2, cells := 0, slots := 0, locals := 47 } : Room) G ad cy [.ref (ad 0), .int (iI f)] σ (gHarvest σ f) := by
  intro sz
  refine Met.ofW (cc := cX3_harvest) (maxL := 4) (ret := none) (by decide) rfl ?_
  intro p e s m args below meth cd s₁ B hml hv
  obtain ⟨rfl, hsz, hP, hK⟩ := hv
  have hx := B.exec
  have hb := B.bytes
  have hr := B.returns
  have hts := atoms_spec (ws := wsX3_harvest) B.pre
  have hown : s.vm.findClass RX3 = some m.cls := findClass_of_methodNamed B.named
  have hlocks := B.notSynchronized
  subst hsz
  have hS : va_S (mA ad s.heap.size) s.heap s.heap [] := va_S.rf
  have hA : ∀ q, s.heap.size ≤ q → mA ad s.heap.size q := fun _ h => Or.inr h
  have hAc : ∀ j, j < 21 → mA ad s.heap.size (ad j) := fun j h => Or.inl ⟨j, h, rfl⟩
  have hl := lv_entry ([.ref (ad 0), .int (iI f)]) (n := 4) (Nat.le_of_ble_eq_true rfl)
  rw [lg_entry_eq]
  generalize (lg_sl ([.ref (ad 0), .int (iI f)]) ++ List.replicate (4 - (lg_sl ([.ref (ad 0), .int (iI f)])).length) Slot.unset).toArray = ls at hl ⊢
  have hl : lv_has ls 4 [(0, .ref (ad 0)), (1, .int (iI f))] := hl
  have hF3 : ∀ w ∈ wsX30, w ∈ wsX3_harvest := by decide +kernel
  have lf46 := hts (.fieldLink RX3 46 "HarvestLenderModel" "crops" "[I") (by decide +kernel)
  have lf49 := hts (.fieldLink RX3 49 "HarvestLenderModel" "hectares" "[I") (by decide +kernel)
  have lf16 := hts (.fieldLink RX3 16 "HarvestLenderModel" "normals" "[I") (by decide +kernel)
  have lf31 := hts (.fieldLink RX3 31 "HarvestLenderModel" "grains" "[I") (by decide +kernel)
  have lf58 := hts (.fieldLink RX3 58 "HarvestLenderModel" "yields" "[I") (by decide +kernel)
  have lf28 := hts (.fieldLink RX3 28 "HarvestLenderModel" "grainCrops" "[I") (by decide +kernel)
  have lf55 := hts (.fieldLink RX3 55 "HarvestLenderModel" "covers" "[I") (by decide +kernel)
  have lf13 := hts (.fieldLink RX3 13 "HarvestLenderModel" "prices" "[I") (by decide +kernel)
  have lc115 := hts (.constantLong RX3 115 (100)) (by decide +kernel)
  have e1 := mulB h14 h3
  have e2 := mulB e1 h17
  have e3 := mulB e1 h2
  refine lv_aload_n hx hb dX3_harvest_0 rfl (lv_at hl 0 rfl) ?_
  refine k_mg (v := .ref (ad 13)) hx hb hts hown hF3 hK hP 16 (by decide) lf46 dX3_harvest_1 rfl rfl ?_
  refine lv_iload_n hx hb dX3_harvest_4 rfl (lv_at hl 1 rfl) ?_
  refine k_mld (q := 13) (N := 8) (x := f) hx hb hK hP (by decide) rfl (by omega) (by omega) (by decide) dX3_harvest_5 ?_
  refine lv_istore_n (lv' := [(2, .int (iI (σ 13 f.toNat))), (0, .ref (ad 0)), (1, .int (iI f))]) hx hb dX3_harvest_6 rfl hl (by decide) rfl (fun ls hl => ?_)
  refine lv_aload_n hx hb dX3_harvest_7 rfl (lv_at hl 1 rfl) ?_
  refine k_mg (v := .ref (ad 14)) hx hb hts hown hF3 hK hP 17 (by decide) lf49 dX3_harvest_8 rfl rfl ?_
  refine lv_iload_n hx hb dX3_harvest_11 rfl (lv_at hl 2 rfl) ?_
  refine k_mld (q := 14) (N := 8) (x := f) hx hb hK hP (by decide) rfl (by omega) (by omega) (by decide) dX3_harvest_12 ?_
  refine lv_aload_n hx hb dX3_harvest_13 rfl (lv_at hl 1 rfl) ?_
  refine k_mg (v := .ref (ad 3)) hx hb hts hown hF3 hK hP 5 (by decide) lf16 dX3_harvest_14 rfl rfl ?_
  refine lv_iload_n hx hb dX3_harvest_17 rfl (lv_at hl 0 rfl) ?_
  refine k_mld (q := 3) (N := 3) (x := σ 13 f.toNat) hx hb hK hP (by decide) rfl (by omega) (by omega) (by decide) dX3_harvest_18 ?_
  refine k_imul hx hb dX3_harvest_19 ?_
  refine lv_istore_n (lv' := [(3, .int (iI ((σ 14 f.toNat) * (σ 3 ((σ 13 f.toNat).toNat))))), (2, .int (iI (σ 13 f.toNat))), (0, .ref (ad 0)), (1, .int (iI f))]) hx hb dX3_harvest_20 rfl hl (by decide) rfl (fun ls hl => ?_)
  refine lv_aload_n hx hb dX3_harvest_21 rfl (lv_at hl 2 rfl) ?_
  refine k_mg (v := .ref (ad 8)) hx hb hts hown hF3 hK hP 11 (by decide) lf31 dX3_harvest_22 rfl rfl ?_
  refine lv_iload_n hx hb dX3_harvest_25 rfl (lv_at hl 3 rfl) ?_
  refine lv_dup2_11 hx hb dX3_harvest_26 rfl rfl ?_
  refine k_mld (q := 8) (N := 8) (x := f) hx hb hK hP (by decide) rfl (by omega) (by omega) (by decide) dX3_harvest_27 ?_
  refine lv_iload_n hx hb dX3_harvest_28 rfl (lv_at hl 0 rfl) ?_
  refine lv_aload_n hx hb dX3_harvest_29 rfl (lv_at hl 2 rfl) ?_
  refine k_mg (v := .ref (ad 17)) hx hb hts hown hF3 hK hP 20 (by decide) lf58 dX3_harvest_30 rfl rfl ?_
  refine lv_iload_n hx hb dX3_harvest_33 rfl (lv_at hl 3 rfl) ?_
  refine k_mld (q := 17) (N := 8) (x := f) hx hb hK hP (by decide) rfl (by omega) (by omega) (by decide) dX3_harvest_34 ?_
  refine k_imul hx hb dX3_harvest_35 ?_
  refine k_bipush hx hb dX3_harvest_36 (by decide) ?_
  refine k_idiv hx hb dX3_harvest_38 (by omega) (by omega) (by decide) (by decide) ?_
  refine k_iadd hx hb dX3_harvest_39 ?_
  refine k_mst (q := 8) (N := 8) (x := f) (v := (σ 8 f.toNat) + ((((σ 14 f.toNat) * (σ 3 ((σ 13 f.toNat).toNat))) * (σ 17 f.toNat)) / 100)) hx hb hI hAc hK hP hS (by decide) rfl (by omega) (by omega) (by decide) dX3_harvest_40 (fun H locs hP hS => ?_)
  refine lv_aload_n hx hb dX3_harvest_41 rfl (lv_at hl 2 rfl) ?_
  refine k_mg (v := .ref (ad 7)) hx hb hts hown hF3 hK hP 10 (by decide) lf28 dX3_harvest_42 rfl rfl ?_
  refine lv_iload_n hx hb dX3_harvest_45 rfl (lv_at hl 3 rfl) ?_
  refine lv_iload_n hx hb dX3_harvest_46 rfl (lv_at hl 1 rfl) ?_
  refine k_mst (q := 7) (N := 8) (x := f) (v := σ 13 f.toNat) hx hb hI hAc hK hP hS (by decide) rfl (by omega) (by omega) (by decide) dX3_harvest_47 (fun H locs hP hS => ?_)
  refine lv_aload_n hx hb dX3_harvest_48 rfl (lv_at hl 2 rfl) ?_
  refine k_mg (v := .ref (ad 17)) hx hb hts hown hF3 hK hP 20 (by decide) lf58 dX3_harvest_49 rfl rfl ?_
  refine lv_iload_n hx hb dX3_harvest_52 rfl (lv_at hl 3 rfl) ?_
  refine k_mld (q := 17) (N := 8) (x := f) hx hb hK hP (by decide) rfl (by omega) (by omega) (by decide) dX3_harvest_53 ?_
  rw [show (up (up σ 8 f.toNat ((σ 8 f.toNat) + ((((σ 14 f.toNat) * (σ 3 ((σ 13 f.toNat).toNat))) * (σ 17 f.toNat)) / 100))) 7 f.toNat (σ 13 f.toNat)) 17 (f).toNat = σ 17 f.toNat by simp [up]]
  refine lv_aload_n hx hb dX3_harvest_54 rfl (lv_at hl 2 rfl) ?_
  refine k_mg (v := .ref (ad 16)) hx hb hts hown hF3 hK hP 19 (by decide) lf55 dX3_harvest_55 rfl rfl ?_
  refine lv_iload_n hx hb dX3_harvest_58 rfl (lv_at hl 3 rfl) ?_
  refine k_mld (q := 16) (N := 8) (x := f) hx hb hK hP (by decide) rfl (by omega) (by omega) (by decide) dX3_harvest_59 ?_
  rw [show (up (up σ 8 f.toNat ((σ 8 f.toNat) + ((((σ 14 f.toNat) * (σ 3 ((σ 13 f.toNat).toNat))) * (σ 17 f.toNat)) / 100))) 7 f.toNat (σ 13 f.toNat)) 16 (f).toNat = σ 16 f.toNat by simp [up]]
  refine k_icmp_ge (tgt := 99) hx hb dX3_harvest_60 (by decide) (by omega) (by omega) (fun c_1 => ?_) (fun c_1 => ?_)
  · have eF : up (up σ 8 f.toNat ((σ 8 f.toNat) + ((((σ 14 f.toNat) * (σ 3 ((σ 13 f.toNat).toNat))) * (σ 17 f.toNat)) / 100))) 7 f.toNat (σ 13 f.toNat) = gHarvest σ f := by first | (rw [gHarvest, if_neg (by omega)]; rfl) | (rw [gHarvest, if_pos (by omega)]; rfl)
    rw [eF] at hP
    exact W.vret hx hb hr (fun t ht hW => ⟨⟨_, rfl, rfl, by rw [ht]; exact hP, va_K.moved hW.alike hK⟩, hS.F ht⟩) hS.2.2 dX3_harvest_99
  · refine lv_aload_n hx hb dX3_harvest_63 rfl (lv_at hl 2 rfl) ?_
    refine lv_iload_n hx hb dX3_harvest_64 rfl (lv_at hl 3 rfl) ?_
    refine lv_iload_n hx hb dX3_harvest_65 rfl (lv_at hl 0 rfl) ?_
    refine k_i2l hx hb dX3_harvest_66 (by omega) ?_
    refine lv_aload_n hx hb dX3_harvest_67 rfl (lv_at hl 2 rfl) ?_
    refine k_mg (v := .ref (ad 2)) hx hb hts hown hF3 hK hP 4 (by decide) lf13 dX3_harvest_68 rfl rfl ?_
    refine lv_iload_n hx hb dX3_harvest_71 rfl (lv_at hl 1 rfl) ?_
    refine k_mld (q := 2) (N := 3) (x := σ 13 f.toNat) hx hb hK hP (by decide) rfl (by omega) (by omega) (by decide) dX3_harvest_72 ?_
    rw [show (up (up σ 8 f.toNat ((σ 8 f.toNat) + ((((σ 14 f.toNat) * (σ 3 ((σ 13 f.toNat).toNat))) * (σ 17 f.toNat)) / 100))) 7 f.toNat (σ 13 f.toNat)) 2 (σ 13 f.toNat).toNat = σ 2 ((σ 13 f.toNat).toNat) by simp [up]]
    refine k_i2l hx hb dX3_harvest_73 (by omega) ?_
    refine k_lmul hx hb dX3_harvest_74 ?_
    refine lv_aload_n hx hb dX3_harvest_75 rfl (lv_at hl 2 rfl) ?_
    refine k_mg (v := .ref (ad 16)) hx hb hts hown hF3 hK hP 19 (by decide) lf55 dX3_harvest_76 rfl rfl ?_
    refine lv_iload_n hx hb dX3_harvest_79 rfl (lv_at hl 3 rfl) ?_
    refine k_mld (q := 16) (N := 8) (x := f) hx hb hK hP (by decide) rfl (by omega) (by omega) (by decide) dX3_harvest_80 ?_
    rw [show (up (up σ 8 f.toNat ((σ 8 f.toNat) + ((((σ 14 f.toNat) * (σ 3 ((σ 13 f.toNat).toNat))) * (σ 17 f.toNat)) / 100))) 7 f.toNat (σ 13 f.toNat)) 16 (f).toNat = σ 16 f.toNat by simp [up]]
    refine lv_aload_n hx hb dX3_harvest_81 rfl (lv_at hl 2 rfl) ?_
    refine k_mg (v := .ref (ad 17)) hx hb hts hown hF3 hK hP 20 (by decide) lf58 dX3_harvest_82 rfl rfl ?_
    refine lv_iload_n hx hb dX3_harvest_85 rfl (lv_at hl 3 rfl) ?_
    refine k_mld (q := 17) (N := 8) (x := f) hx hb hK hP (by decide) rfl (by omega) (by omega) (by decide) dX3_harvest_86 ?_
    rw [show (up (up σ 8 f.toNat ((σ 8 f.toNat) + ((((σ 14 f.toNat) * (σ 3 ((σ 13 f.toNat).toNat))) * (σ 17 f.toNat)) / 100))) 7 f.toNat (σ 13 f.toNat)) 17 (f).toNat = σ 17 f.toNat by simp [up]]
    refine k_isub hx hb dX3_harvest_87 ?_
    refine k_i2l hx hb dX3_harvest_88 (by omega) ?_
    refine k_lmul hx hb dX3_harvest_89 ?_
    refine k_ldc2 hx hb (100) hown lc115 (by decide) dX3_harvest_90 ?_
    refine k_ldiv hx hb dX3_harvest_93 (by have e4 := mulB e3 (⟨by omega, by omega⟩ : 0 ≤ σ 16 f.toNat - σ 17 f.toNat ∧ σ 16 f.toNat - σ 17 f.toNat ≤ 90); exact e4.1) (by have e4 := mulB e3 (⟨by omega, by omega⟩ : 0 ≤ σ 16 f.toNat - σ 17 f.toNat ∧ σ 16 f.toNat - σ 17 f.toNat ≤ 90); omega) (by decide) (by decide) ?_
    refine k_l2i hx hb dX3_harvest_94 ?_
    refine k_iconst hx hb dX3_harvest_95 ?_
    refine k_mcv (As := [.int (iI f), .int (iI (((((σ 14 f.toNat) * (σ 3 ((σ 13 f.toNat).toNat))) * (σ 2 ((σ 13 f.toNat).toNat))) * ((σ 16 f.toNat) - (σ 17 f.toNat))) / 100)), .int (iI 1)]) (rest := []) ⟨hx, hb, hml, hown, hts⟩ (m_come l G ad cy hI (up (up σ 8 f.toNat ((σ 8 f.toNat) + ((((σ 14 f.toNat) * (σ 3 ((σ 13 f.toNat).toNat))) * (σ 17 f.toNat)) / 100))) 7 f.toNat (σ 13 f.toNat)) f (((((σ 14 f.toNat) * (σ 3 ((σ 13 f.toNat).toNat))) * (σ 2 ((σ 13 f.toNat).toNat))) * ((σ 16 f.toNat) - (σ 17 f.toNat))) / 100) 1 (by omega) (by have e4 := mulB e3 (⟨by omega, by omega⟩ : 0 ≤ σ 16 f.toNat - σ 17 f.toNat ∧ σ 16 f.toNat - σ 17 f.toNat ≤ 90); omega) (by decide) (by omega) (by decide) (by simp [up]; omega)) (cwV 3 hts gX3_harvest_X3_come rfl rfl rfl (by decide +kernel) ⟨Nat.le_of_ble_eq_true rfl, Nat.le_of_ble_eq_true rfl⟩) (mRecv hK hP) hAc hA hK hP hS rfl hl.1 rfl (Nat.le_of_ble_eq_true rfl) dX3_harvest_96 ⟨Nat.zero_le _, Nat.zero_le _⟩ (fun H locs hP hS => ?_)
    have eF : gCome (up (up σ 8 f.toNat ((σ 8 f.toNat) + ((((σ 14 f.toNat) * (σ 3 ((σ 13 f.toNat).toNat))) * (σ 17 f.toNat)) / 100))) 7 f.toNat (σ 13 f.toNat)) f (((((σ 14 f.toNat) * (σ 3 ((σ 13 f.toNat).toNat))) * (σ 2 ((σ 13 f.toNat).toNat))) * ((σ 16 f.toNat) - (σ 17 f.toNat))) / 100) 1 = gHarvest σ f := by first | (rw [gHarvest, if_neg (by omega)]; rfl) | (rw [gHarvest, if_pos (by omega)]; rfl)
    rw [eF] at hP
    exact W.vret hx hb hr (fun t ht hW => ⟨⟨_, rfl, rfl, by rw [ht]; exact hP, va_K.moved hW.alike hK⟩, hS.F ht⟩) hS.2.2 dX3_harvest_99
set_option maxHeartbeats 4000000 in
set_option maxRecDepth 100000 in
theorem m_setNeed (l : Launch) (G : va_G) (ad : Nat → Nat) (cy : Nat → ClassId) (hI : mI ad) (σ : Sg) (c x v : Int) (hc : nB c) (hx : nB x) (hv : nB v) (hB : mBd σ) : mMi l yX3_setNeed wsX3_setNeed ({ frames := 2, cells := 0, slots := 0, locals := 42 } : Room) G ad cy [.ref (ad 0), .int (iI c), .int (iI x), .int (iI v)] σ (rOf (qSetNeed c x v) (σ 1 (4 * c + x).toNat)) (tOf (qSetNeed c x v) σ (up (up σ 0 0 0) 1 (4 * c + x).toNat v)) := by
  intro sz
  refine Met.ofW (cc := cX3_setNeed) (maxL := 6) (ret := (some .int)) (by decide) rfl ?_
  intro p e s m args below meth cd s₁ B hml hv
  obtain ⟨rfl, hsz, hP, hK⟩ := hv
  have hx := B.exec
  have hb := B.bytes
  have hr := B.returns
  have hts := atoms_spec (ws := wsX3_setNeed) B.pre
  have hown : s.vm.findClass RX3 = some m.cls := findClass_of_methodNamed B.named
  have hlocks := B.notSynchronized
  subst hsz
  have hS : va_S (mA ad s.heap.size) s.heap s.heap [] := va_S.rf
  have hA : ∀ q, s.heap.size ≤ q → mA ad s.heap.size q := fun _ h => Or.inr h
  have hAc : ∀ j, j < 21 → mA ad s.heap.size (ad j) := fun j h => Or.inl ⟨j, h, rfl⟩
  have hl := lv_entry ([.ref (ad 0), .int (iI c), .int (iI x), .int (iI v)]) (n := 6) (Nat.le_of_ble_eq_true rfl)
  rw [lg_entry_eq]
  generalize (lg_sl ([.ref (ad 0), .int (iI c), .int (iI x), .int (iI v)]) ++ List.replicate (6 - (lg_sl ([.ref (ad 0), .int (iI c), .int (iI x), .int (iI v)])).length) Slot.unset).toArray = ls at hl ⊢
  have hl : lv_has ls 6 [(0, .ref (ad 0)), (1, .int (iI c)), (2, .int (iI x)), (3, .int (iI v))] := hl
  have hF3 : ∀ w ∈ wsX30, w ∈ wsX3_setNeed := by decide +kernel
  have lc85 := hts (.constant RX3 85 (100000)) (by decide +kernel)
  have lf7 := hts (.fieldLink RX3 7 "HarvestLenderModel" "needs" "[I") (by decide +kernel)
  have hcnt := hB.1.1
  have hstg := hB.1.2.2
  have hsea := hB.1.2.1
  refine lv_iload_n hx hb dX3_setNeed_0 rfl (lv_at hl 1 rfl) ?_
  refine k_msi (As := [.int (iI c)]) (rest := []) ⟨hx, hb, hml, hown, hts⟩ (m_isCrop l G ad cy hI σ c (by omega)) (va_cwS 1 hts gX3_setNeed_X3_isCrop rfl rfl rfl (by decide +kernel) ⟨Nat.le_of_ble_eq_true rfl, Nat.le_of_ble_eq_true rfl⟩) hAc hA hK hP hS rfl hl.1 rfl (Nat.le_of_ble_eq_true rfl) dX3_setNeed_1 ⟨Nat.zero_le _, Nat.zero_le _⟩ (fun H locs hP hS => ?_)
  refine k_if_eq (tgt := 20) hx hb dX3_setNeed_4 (by decide) (gIn_nB _ _ _) (fun c_1 => ?_) (fun c_1 => ?_)
  · have d_1 := c_1
    rw [gIn_0] at d_1
    refine k_iconst hx hb dX3_setNeed_20 ?_
    refine lv_istore (lv' := [(4, .int (iI 0)), (0, .ref (ad 0)), (1, .int (iI c)), (2, .int (iI x)), (3, .int (iI v))]) hx hb dX3_setNeed_21 hl (by decide) rfl (fun ls hl => ?_)
    refine lv_aload_n hx hb dX3_setNeed_23 rfl (lv_at hl 1 rfl) ?_
    refine lv_iload hx hb dX3_setNeed_24 (lv_at hl 0 rfl) ?_
    refine k_if_ne (tgt := 33) hx hb dX3_setNeed_26 (by decide) (by decide) (fun c9 => absurd c9 (by decide)) (fun _ => ?_)
    refine k_iconst hx hb dX3_setNeed_29 ?_
    refine lv_goto (tgt := 48) hx hb dX3_setNeed_30 (by decide) ?_
    refine k_mci (As := [.int (iI 1)]) (rest := []) ⟨hx, hb, hml, hown, hts⟩ (m_refused l G ad cy hI σ 1 (by decide)) (cwV 1 hts gX3_setNeed_X3_refused rfl rfl rfl (by decide +kernel) ⟨Nat.le_of_ble_eq_true rfl, Nat.le_of_ble_eq_true rfl⟩) (mRecv hK hP) hAc hA hK hP hS rfl hl.1 rfl (Nat.le_of_ble_eq_true rfl) dX3_setNeed_48 ⟨Nat.zero_le _, Nat.zero_le _⟩ (fun H locs hP hS => ?_)
    refine k_if_eq (tgt := 56) hx hb dX3_setNeed_51 (by decide) (gNz_nB _) (fun c9 => absurd c9 (by decide)) (fun _ => ?_)
    refine k_iconst hx hb dX3_setNeed_54 ?_
    have eQ : qSetNeed c x v = 1 := by unfold qSetNeed; (repeat' split) <;> first | rfl | omega
    have eF : up σ 0 0 1 = tOf (qSetNeed c x v) σ (up (up σ 0 0 0) 1 (4 * c + x).toNat v) := by (rw [tOf_n eQ (by decide)]); try (rfl)
    rw [eF] at hP
    have eR : 0 = rOf (qSetNeed c x v) (σ 1 (4 * c + x).toNat) := by (rw [rOf_n eQ (by decide)]); try (rfl)
    exact W.iret hx hb hr (fun t ht hW => ⟨⟨_, _, rfl, ⟨congrArg iI eR, rfl⟩, by rw [ht]; exact hP, va_K.moved hW.alike hK⟩, hS.F ht⟩) hS.2.2 dX3_setNeed_55
  · have d_1 := c_1
    rw [gIn_0] at d_1
    refine lv_iload_n hx hb dX3_setNeed_7 rfl (lv_at hl 2 rfl) ?_
    refine k_iconst hx hb dX3_setNeed_8 ?_
    refine k_iconst hx hb dX3_setNeed_9 ?_
    refine k_msi (As := [.int (iI x), .int (iI 0), .int (iI 3)]) (rest := []) ⟨hx, hb, hml, hown, hts⟩ (m_in l G ad cy hI σ x 0 3 (by omega) (by decide) (by decide)) (va_cwS 3 hts gX3_setNeed_X3_in rfl rfl rfl (by decide +kernel) ⟨Nat.le_of_ble_eq_true rfl, Nat.le_of_ble_eq_true rfl⟩) hAc hA hK hP hS rfl hl.1 rfl (Nat.le_of_ble_eq_true rfl) dX3_setNeed_10 ⟨Nat.zero_le _, Nat.zero_le _⟩ (fun H locs hP hS => ?_)
    refine k_if_eq (tgt := 20) hx hb dX3_setNeed_13 (by decide) (gIn_nB _ _ _) (fun c_3 => ?_) (fun c_3 => ?_)
    · have d_3 := c_3
      rw [gIn_0] at d_3
      refine k_iconst hx hb dX3_setNeed_20 ?_
      refine lv_istore (lv' := [(4, .int (iI 0)), (0, .ref (ad 0)), (1, .int (iI c)), (2, .int (iI x)), (3, .int (iI v))]) hx hb dX3_setNeed_21 hl (by decide) rfl (fun ls hl => ?_)
      refine lv_aload_n hx hb dX3_setNeed_23 rfl (lv_at hl 1 rfl) ?_
      refine lv_iload hx hb dX3_setNeed_24 (lv_at hl 0 rfl) ?_
      refine k_if_ne (tgt := 33) hx hb dX3_setNeed_26 (by decide) (by decide) (fun c9 => absurd c9 (by decide)) (fun _ => ?_)
      refine k_iconst hx hb dX3_setNeed_29 ?_
      refine lv_goto (tgt := 48) hx hb dX3_setNeed_30 (by decide) ?_
      refine k_mci (As := [.int (iI 1)]) (rest := []) ⟨hx, hb, hml, hown, hts⟩ (m_refused l G ad cy hI σ 1 (by decide)) (cwV 1 hts gX3_setNeed_X3_refused rfl rfl rfl (by decide +kernel) ⟨Nat.le_of_ble_eq_true rfl, Nat.le_of_ble_eq_true rfl⟩) (mRecv hK hP) hAc hA hK hP hS rfl hl.1 rfl (Nat.le_of_ble_eq_true rfl) dX3_setNeed_48 ⟨Nat.zero_le _, Nat.zero_le _⟩ (fun H locs hP hS => ?_)
      refine k_if_eq (tgt := 56) hx hb dX3_setNeed_51 (by decide) (gNz_nB _) (fun c9 => absurd c9 (by decide)) (fun _ => ?_)
      refine k_iconst hx hb dX3_setNeed_54 ?_
      have eQ : qSetNeed c x v = 1 := by unfold qSetNeed; (repeat' split) <;> first | rfl | omega
      have eF : up σ 0 0 1 = tOf (qSetNeed c x v) σ (up (up σ 0 0 0) 1 (4 * c + x).toNat v) := by (rw [tOf_n eQ (by decide)]); try (rfl)
      rw [eF] at hP
      have eR : 0 = rOf (qSetNeed c x v) (σ 1 (4 * c + x).toNat) := by (rw [rOf_n eQ (by decide)]); try (rfl)
      exact W.iret hx hb hr (fun t ht hW => ⟨⟨_, _, rfl, ⟨congrArg iI eR, rfl⟩, by rw [ht]; exact hP, va_K.moved hW.alike hK⟩, hS.F ht⟩) hS.2.2 dX3_setNeed_55
    · have d_3 := c_3
      rw [gIn_0] at d_3
      refine k_iconst hx hb dX3_setNeed_16 ?_
      refine lv_goto (tgt := 21) hx hb dX3_setNeed_17 (by decide) ?_
      refine lv_istore (lv' := [(4, .int (iI 1)), (0, .ref (ad 0)), (1, .int (iI c)), (2, .int (iI x)), (3, .int (iI v))]) hx hb dX3_setNeed_21 hl (by decide) rfl (fun ls hl => ?_)
      refine lv_aload_n hx hb dX3_setNeed_23 rfl (lv_at hl 1 rfl) ?_
      refine lv_iload hx hb dX3_setNeed_24 (lv_at hl 0 rfl) ?_
      refine k_if_ne (tgt := 33) hx hb dX3_setNeed_26 (by decide) (by decide) (fun _ => ?_) (fun c9 => absurd c9 (by decide))
      refine lv_iload_n hx hb dX3_setNeed_33 rfl (lv_at hl 4 rfl) ?_
      refine k_iconst hx hb dX3_setNeed_34 ?_
      refine k_ldc hx hb (100000) hown lc85 (by decide) dX3_setNeed_35 ?_
      refine k_msi (As := [.int (iI v), .int (iI 0), .int (iI 100000)]) (rest := [.ref (ad 0)]) ⟨hx, hb, hml, hown, hts⟩ (m_in l G ad cy hI σ v 0 100000 (by omega) (by decide) (by decide)) (va_cwS 3 hts gX3_setNeed_X3_in rfl rfl rfl (by decide +kernel) ⟨Nat.le_of_ble_eq_true rfl, Nat.le_of_ble_eq_true rfl⟩) hAc hA hK hP hS rfl hl.1 rfl (Nat.le_of_ble_eq_true rfl) dX3_setNeed_37 ⟨Nat.zero_le _, Nat.zero_le _⟩ (fun H locs hP hS => ?_)
      refine k_if_eq (tgt := 47) hx hb dX3_setNeed_40 (by decide) (gIn_nB _ _ _) (fun c_5 => ?_) (fun c_5 => ?_)
      · have d_5 := c_5
        rw [gIn_0] at d_5
        refine k_iconst hx hb dX3_setNeed_47 ?_
        refine k_mci (As := [.int (iI 2)]) (rest := []) ⟨hx, hb, hml, hown, hts⟩ (m_refused l G ad cy hI σ 2 (by decide)) (cwV 1 hts gX3_setNeed_X3_refused rfl rfl rfl (by decide +kernel) ⟨Nat.le_of_ble_eq_true rfl, Nat.le_of_ble_eq_true rfl⟩) (mRecv hK hP) hAc hA hK hP hS rfl hl.1 rfl (Nat.le_of_ble_eq_true rfl) dX3_setNeed_48 ⟨Nat.zero_le _, Nat.zero_le _⟩ (fun H locs hP hS => ?_)
        refine k_if_eq (tgt := 56) hx hb dX3_setNeed_51 (by decide) (gNz_nB _) (fun c9 => absurd c9 (by decide)) (fun _ => ?_)
        refine k_iconst hx hb dX3_setNeed_54 ?_
        have eQ : qSetNeed c x v = 2 := by unfold qSetNeed; (repeat' split) <;> first | rfl | omega
        have eF : up σ 0 0 2 = tOf (qSetNeed c x v) σ (up (up σ 0 0 0) 1 (4 * c + x).toNat v) := by (rw [tOf_n eQ (by decide)]); try (rfl)
        rw [eF] at hP
        have eR : 0 = rOf (qSetNeed c x v) (σ 1 (4 * c + x).toNat) := by (rw [rOf_n eQ (by decide)]); try (rfl)
        exact W.iret hx hb hr (fun t ht hW => ⟨⟨_, _, rfl, ⟨congrArg iI eR, rfl⟩, by rw [ht]; exact hP, va_K.moved hW.alike hK⟩, hS.F ht⟩) hS.2.2 dX3_setNeed_55
      · have d_5 := c_5
        rw [gIn_0] at d_5
        refine k_iconst hx hb dX3_setNeed_43 ?_
        refine lv_goto (tgt := 48) hx hb dX3_setNeed_44 (by decide) ?_
        refine k_mci (As := [.int (iI 0)]) (rest := []) ⟨hx, hb, hml, hown, hts⟩ (m_refused l G ad cy hI σ 0 (by decide)) (cwV 1 hts gX3_setNeed_X3_refused rfl rfl rfl (by decide +kernel) ⟨Nat.le_of_ble_eq_true rfl, Nat.le_of_ble_eq_true rfl⟩) (mRecv hK hP) hAc hA hK hP hS rfl hl.1 rfl (Nat.le_of_ble_eq_true rfl) dX3_setNeed_48 ⟨Nat.zero_le _, Nat.zero_le _⟩ (fun H locs hP hS => ?_)
        refine k_if_eq (tgt := 56) hx hb dX3_setNeed_51 (by decide) (gNz_nB _) (fun _ => ?_) (fun c9 => absurd c9 (by decide))
        refine lv_aload_n hx hb dX3_setNeed_56 rfl (lv_at hl 1 rfl) ?_
        refine k_mg (v := .ref (ad 1)) hx hb hts hown hF3 hK hP 3 (by decide) lf7 dX3_setNeed_57 rfl rfl ?_
        refine k_iconst hx hb dX3_setNeed_60 ?_
        refine lv_iload_n hx hb dX3_setNeed_61 rfl (lv_at hl 2 rfl) ?_
        refine k_imul hx hb dX3_setNeed_62 ?_
        refine lv_iload_n hx hb dX3_setNeed_63 rfl (lv_at hl 3 rfl) ?_
        refine k_iadd hx hb dX3_setNeed_64 ?_
        refine k_mld (q := 1) (N := 12) (x := (4 * c) + x) hx hb hK hP (by decide) rfl (by omega) (by omega) (by decide) dX3_setNeed_65 ?_
        rw [show (up σ 0 0 0) 1 ((4 * c) + x).toNat = σ 1 (((4 * c) + x).toNat) by simp [up]]
        refine lv_istore (lv' := [(5, .int (iI (σ 1 (((4 * c) + x).toNat)))), (4, .int (iI 1)), (0, .ref (ad 0)), (1, .int (iI c)), (2, .int (iI x)), (3, .int (iI v))]) hx hb dX3_setNeed_66 hl (by decide) rfl (fun ls hl => ?_)
        refine lv_aload_n hx hb dX3_setNeed_68 rfl (lv_at hl 2 rfl) ?_
        refine k_mg (v := .ref (ad 1)) hx hb hts hown hF3 hK hP 3 (by decide) lf7 dX3_setNeed_69 rfl rfl ?_
        refine k_iconst hx hb dX3_setNeed_72 ?_
        refine lv_iload_n hx hb dX3_setNeed_73 rfl (lv_at hl 3 rfl) ?_
        refine k_imul hx hb dX3_setNeed_74 ?_
        refine lv_iload_n hx hb dX3_setNeed_75 rfl (lv_at hl 4 rfl) ?_
        refine k_iadd hx hb dX3_setNeed_76 ?_
        refine lv_iload_n hx hb dX3_setNeed_77 rfl (lv_at hl 5 rfl) ?_
        refine k_mst (q := 1) (N := 12) (x := (4 * c) + x) (v := v) hx hb hI hAc hK hP hS (by decide) rfl (by omega) (by omega) (by decide) dX3_setNeed_78 (fun H locs hP hS => ?_)
        refine lv_iload hx hb dX3_setNeed_79 (lv_at hl 0 rfl) ?_
        have eQ : qSetNeed c x v = 0 := by unfold qSetNeed; (repeat' split) <;> first | rfl | omega
        have eF : up (up σ 0 0 0) 1 (((4 * c) + x).toNat) v = tOf (qSetNeed c x v) σ (up (up σ 0 0 0) 1 (4 * c + x).toNat v) := by (rw [tOf_0 eQ]); try (first | rfl | (simp only [up_s]; done) | (simp only [up_s]; repeat' split) <;> first | rfl | (exfalso; omega) | omega)
        rw [eF] at hP
        have eR : σ 1 (((4 * c) + x).toNat) = rOf (qSetNeed c x v) (σ 1 (4 * c + x).toNat) := by (rw [rOf_0 eQ]); try (first | rfl | (simp only [up_s]; done) | (simp only [up_s]; repeat' split) <;> first | rfl | (exfalso; omega) | omega)
        exact W.iret hx hb hr (fun t ht hW => ⟨⟨_, _, rfl, ⟨congrArg iI eR, rfl⟩, by rw [ht]; exact hP, va_K.moved hW.alike hK⟩, hS.F ht⟩) hS.2.2 dX3_setNeed_81
set_option maxHeartbeats 4000000 in
set_option maxRecDepth 100000 in
theorem m_setCrop (l : Launch) (G : va_G) (ad : Nat → Nat) (cy : Nat → ClassId) (hI : mI ad) (σ : Sg) (c x v : Int) (hc : nB c) (hx : nB x) (hv : nB v) (hB : mBd σ) : mMi l yX3_setCrop wsX3_setCrop ({ frames := 2, cells := 0, slots := 0, locals := 42 } : Room) G ad cy [.ref (ad 0), .int (iI c), .int (iI x), .int (iI v)] σ (rOf (qSetCrop c x v) (σ 2 c.toNat)) (tOf (qSetCrop c x v) σ (up (up (up σ 0 0 0) 2 c.toNat x) 3 c.toNat v)) := by
  intro sz
  refine Met.ofW (cc := cX3_setCrop) (maxL := 5) (ret := (some .int)) (by decide) rfl ?_
  intro p e s m args below meth cd s₁ B hml hv
  obtain ⟨rfl, hsz, hP, hK⟩ := hv
  have hx := B.exec
  have hb := B.bytes
  have hr := B.returns
  have hts := atoms_spec (ws := wsX3_setCrop) B.pre
  have hown : s.vm.findClass RX3 = some m.cls := findClass_of_methodNamed B.named
  have hlocks := B.notSynchronized
  subst hsz
  have hS : va_S (mA ad s.heap.size) s.heap s.heap [] := va_S.rf
  have hA : ∀ q, s.heap.size ≤ q → mA ad s.heap.size q := fun _ h => Or.inr h
  have hAc : ∀ j, j < 21 → mA ad s.heap.size (ad j) := fun j h => Or.inl ⟨j, h, rfl⟩
  have hl := lv_entry ([.ref (ad 0), .int (iI c), .int (iI x), .int (iI v)]) (n := 5) (Nat.le_of_ble_eq_true rfl)
  rw [lg_entry_eq]
  generalize (lg_sl ([.ref (ad 0), .int (iI c), .int (iI x), .int (iI v)]) ++ List.replicate (5 - (lg_sl ([.ref (ad 0), .int (iI c), .int (iI x), .int (iI v)])).length) Slot.unset).toArray = ls at hl ⊢
  have hl : lv_has ls 5 [(0, .ref (ad 0)), (1, .int (iI c)), (2, .int (iI x)), (3, .int (iI v))] := hl
  have hF3 : ∀ w ∈ wsX30, w ∈ wsX3_setCrop := by decide +kernel
  have lf13 := hts (.fieldLink RX3 13 "HarvestLenderModel" "prices" "[I") (by decide +kernel)
  have lf16 := hts (.fieldLink RX3 16 "HarvestLenderModel" "normals" "[I") (by decide +kernel)
  have hcnt := hB.1.1
  have hstg := hB.1.2.2
  have hsea := hB.1.2.1
  refine lv_aload_n hx hb dX3_setCrop_0 rfl (lv_at hl 0 rfl) ?_
  refine lv_iload_n hx hb dX3_setCrop_1 rfl (lv_at hl 1 rfl) ?_
  refine k_msi (As := [.int (iI c)]) (rest := [.ref (ad 0)]) ⟨hx, hb, hml, hown, hts⟩ (m_isCrop l G ad cy hI σ c (by omega)) (va_cwS 1 hts gX3_setCrop_X3_isCrop rfl rfl rfl (by decide +kernel) ⟨Nat.le_of_ble_eq_true rfl, Nat.le_of_ble_eq_true rfl⟩) hAc hA hK hP hS rfl hl.1 rfl (Nat.le_of_ble_eq_true rfl) dX3_setCrop_2 ⟨Nat.zero_le _, Nat.zero_le _⟩ (fun H locs hP hS => ?_)
  refine k_if_ne (tgt := 12) hx hb dX3_setCrop_5 (by decide) (gIn_nB _ _ _) (fun c_1 => ?_) (fun c_1 => ?_)
  · have d_1 := c_1
    rw [gIn_0] at d_1
    refine lv_iload_n hx hb dX3_setCrop_12 rfl (lv_at hl 2 rfl) ?_
    refine k_iconst hx hb dX3_setCrop_13 ?_
    refine k_sipush hx hb dX3_setCrop_14 (by decide) ?_
    refine k_msi (As := [.int (iI x), .int (iI 1), .int (iI 5000)]) (rest := [.ref (ad 0)]) ⟨hx, hb, hml, hown, hts⟩ (m_in l G ad cy hI σ x 1 5000 (by omega) (by decide) (by decide)) (va_cwS 3 hts gX3_setCrop_X3_in rfl rfl rfl (by decide +kernel) ⟨Nat.le_of_ble_eq_true rfl, Nat.le_of_ble_eq_true rfl⟩) hAc hA hK hP hS rfl hl.1 rfl (Nat.le_of_ble_eq_true rfl) dX3_setCrop_17 ⟨Nat.zero_le _, Nat.zero_le _⟩ (fun H locs hP hS => ?_)
    refine k_if_eq (tgt := 37) hx hb dX3_setCrop_20 (by decide) (gIn_nB _ _ _) (fun c_2 => ?_) (fun c_2 => ?_)
    · have d_2 := c_2
      rw [gIn_0] at d_2
      refine k_iconst hx hb dX3_setCrop_37 ?_
      refine k_mci (As := [.int (iI 2)]) (rest := []) ⟨hx, hb, hml, hown, hts⟩ (m_refused l G ad cy hI σ 2 (by decide)) (cwV 1 hts gX3_setCrop_X3_refused rfl rfl rfl (by decide +kernel) ⟨Nat.le_of_ble_eq_true rfl, Nat.le_of_ble_eq_true rfl⟩) (mRecv hK hP) hAc hA hK hP hS rfl hl.1 rfl (Nat.le_of_ble_eq_true rfl) dX3_setCrop_38 ⟨Nat.zero_le _, Nat.zero_le _⟩ (fun H locs hP hS => ?_)
      refine k_if_eq (tgt := 46) hx hb dX3_setCrop_41 (by decide) (gNz_nB _) (fun c9 => absurd c9 (by decide)) (fun _ => ?_)
      refine k_iconst hx hb dX3_setCrop_44 ?_
      have eQ : qSetCrop c x v = 2 := by unfold qSetCrop; (repeat' split) <;> first | rfl | omega
      have eF : up σ 0 0 2 = tOf (qSetCrop c x v) σ (up (up (up σ 0 0 0) 2 c.toNat x) 3 c.toNat v) := by (rw [tOf_n eQ (by decide)]); try (rfl)
      rw [eF] at hP
      have eR : 0 = rOf (qSetCrop c x v) (σ 2 c.toNat) := by (rw [rOf_n eQ (by decide)]); try (rfl)
      exact W.iret hx hb hr (fun t ht hW => ⟨⟨_, _, rfl, ⟨congrArg iI eR, rfl⟩, by rw [ht]; exact hP, va_K.moved hW.alike hK⟩, hS.F ht⟩) hS.2.2 dX3_setCrop_45
    · have d_2 := c_2
      rw [gIn_0] at d_2
      refine lv_iload_n hx hb dX3_setCrop_23 rfl (lv_at hl 3 rfl) ?_
      refine k_iconst hx hb dX3_setCrop_24 ?_
      refine k_bipush hx hb dX3_setCrop_25 (by decide) ?_
      refine k_msi (As := [.int (iI v), .int (iI 0), .int (iI 100)]) (rest := [.ref (ad 0)]) ⟨hx, hb, hml, hown, hts⟩ (m_in l G ad cy hI σ v 0 100 (by omega) (by decide) (by decide)) (va_cwS 3 hts gX3_setCrop_X3_in rfl rfl rfl (by decide +kernel) ⟨Nat.le_of_ble_eq_true rfl, Nat.le_of_ble_eq_true rfl⟩) hAc hA hK hP hS rfl hl.1 rfl (Nat.le_of_ble_eq_true rfl) dX3_setCrop_27 ⟨Nat.zero_le _, Nat.zero_le _⟩ (fun H locs hP hS => ?_)
      refine k_if_eq (tgt := 37) hx hb dX3_setCrop_30 (by decide) (gIn_nB _ _ _) (fun c_4 => ?_) (fun c_4 => ?_)
      · have d_4 := c_4
        rw [gIn_0] at d_4
        refine k_iconst hx hb dX3_setCrop_37 ?_
        refine k_mci (As := [.int (iI 2)]) (rest := []) ⟨hx, hb, hml, hown, hts⟩ (m_refused l G ad cy hI σ 2 (by decide)) (cwV 1 hts gX3_setCrop_X3_refused rfl rfl rfl (by decide +kernel) ⟨Nat.le_of_ble_eq_true rfl, Nat.le_of_ble_eq_true rfl⟩) (mRecv hK hP) hAc hA hK hP hS rfl hl.1 rfl (Nat.le_of_ble_eq_true rfl) dX3_setCrop_38 ⟨Nat.zero_le _, Nat.zero_le _⟩ (fun H locs hP hS => ?_)
        refine k_if_eq (tgt := 46) hx hb dX3_setCrop_41 (by decide) (gNz_nB _) (fun c9 => absurd c9 (by decide)) (fun _ => ?_)
        refine k_iconst hx hb dX3_setCrop_44 ?_
        have eQ : qSetCrop c x v = 2 := by unfold qSetCrop; (repeat' split) <;> first | rfl | omega
        have eF : up σ 0 0 2 = tOf (qSetCrop c x v) σ (up (up (up σ 0 0 0) 2 c.toNat x) 3 c.toNat v) := by (rw [tOf_n eQ (by decide)]); try (rfl)
        rw [eF] at hP
        have eR : 0 = rOf (qSetCrop c x v) (σ 2 c.toNat) := by (rw [rOf_n eQ (by decide)]); try (rfl)
        exact W.iret hx hb hr (fun t ht hW => ⟨⟨_, _, rfl, ⟨congrArg iI eR, rfl⟩, by rw [ht]; exact hP, va_K.moved hW.alike hK⟩, hS.F ht⟩) hS.2.2 dX3_setCrop_45
      · have d_4 := c_4
        rw [gIn_0] at d_4
        refine k_iconst hx hb dX3_setCrop_33 ?_
        refine lv_goto (tgt := 38) hx hb dX3_setCrop_34 (by decide) ?_
        refine k_mci (As := [.int (iI 0)]) (rest := []) ⟨hx, hb, hml, hown, hts⟩ (m_refused l G ad cy hI σ 0 (by decide)) (cwV 1 hts gX3_setCrop_X3_refused rfl rfl rfl (by decide +kernel) ⟨Nat.le_of_ble_eq_true rfl, Nat.le_of_ble_eq_true rfl⟩) (mRecv hK hP) hAc hA hK hP hS rfl hl.1 rfl (Nat.le_of_ble_eq_true rfl) dX3_setCrop_38 ⟨Nat.zero_le _, Nat.zero_le _⟩ (fun H locs hP hS => ?_)
        refine k_if_eq (tgt := 46) hx hb dX3_setCrop_41 (by decide) (gNz_nB _) (fun _ => ?_) (fun c9 => absurd c9 (by decide))
        refine lv_aload_n hx hb dX3_setCrop_46 rfl (lv_at hl 0 rfl) ?_
        refine k_mg (v := .ref (ad 2)) hx hb hts hown hF3 hK hP 4 (by decide) lf13 dX3_setCrop_47 rfl rfl ?_
        refine lv_iload_n hx hb dX3_setCrop_50 rfl (lv_at hl 1 rfl) ?_
        refine k_mld (q := 2) (N := 3) (x := c) hx hb hK hP (by decide) rfl (by omega) (by omega) (by decide) dX3_setCrop_51 ?_
        rw [show (up σ 0 0 0) 2 (c).toNat = σ 2 c.toNat by simp [up]]
        refine lv_istore (lv' := [(4, .int (iI (σ 2 c.toNat))), (0, .ref (ad 0)), (1, .int (iI c)), (2, .int (iI x)), (3, .int (iI v))]) hx hb dX3_setCrop_52 hl (by decide) rfl (fun ls hl => ?_)
        refine lv_aload_n hx hb dX3_setCrop_54 rfl (lv_at hl 1 rfl) ?_
        refine k_mg (v := .ref (ad 2)) hx hb hts hown hF3 hK hP 4 (by decide) lf13 dX3_setCrop_55 rfl rfl ?_
        refine lv_iload_n hx hb dX3_setCrop_58 rfl (lv_at hl 2 rfl) ?_
        refine lv_iload_n hx hb dX3_setCrop_59 rfl (lv_at hl 3 rfl) ?_
        refine k_mst (q := 2) (N := 3) (x := c) (v := x) hx hb hI hAc hK hP hS (by decide) rfl (by omega) (by omega) (by decide) dX3_setCrop_60 (fun H locs hP hS => ?_)
        refine lv_aload_n hx hb dX3_setCrop_61 rfl (lv_at hl 1 rfl) ?_
        refine k_mg (v := .ref (ad 3)) hx hb hts hown hF3 hK hP 5 (by decide) lf16 dX3_setCrop_62 rfl rfl ?_
        refine lv_iload_n hx hb dX3_setCrop_65 rfl (lv_at hl 2 rfl) ?_
        refine lv_iload_n hx hb dX3_setCrop_66 rfl (lv_at hl 4 rfl) ?_
        refine k_mst (q := 3) (N := 3) (x := c) (v := v) hx hb hI hAc hK hP hS (by decide) rfl (by omega) (by omega) (by decide) dX3_setCrop_67 (fun H locs hP hS => ?_)
        refine lv_iload hx hb dX3_setCrop_68 (lv_at hl 0 rfl) ?_
        have eQ : qSetCrop c x v = 0 := by unfold qSetCrop; (repeat' split) <;> first | rfl | omega
        have eF : up (up (up σ 0 0 0) 2 c.toNat x) 3 c.toNat v = tOf (qSetCrop c x v) σ (up (up (up σ 0 0 0) 2 c.toNat x) 3 c.toNat v) := by (rw [tOf_0 eQ]); try (first | rfl | (simp only [up_s]; done) | (simp only [up_s]; repeat' split) <;> first | rfl | (exfalso; omega) | omega)
        rw [eF] at hP
        have eR : σ 2 c.toNat = rOf (qSetCrop c x v) (σ 2 c.toNat) := by (rw [rOf_0 eQ]); try (first | rfl | (simp only [up_s]; done) | (simp only [up_s]; repeat' split) <;> first | rfl | (exfalso; omega) | omega)
        exact W.iret hx hb hr (fun t ht hW => ⟨⟨_, _, rfl, ⟨congrArg iI eR, rfl⟩, by rw [ht]; exact hP, va_K.moved hW.alike hK⟩, hS.F ht⟩) hS.2.2 dX3_setCrop_70
  · have d_1 := c_1
    rw [gIn_0] at d_1
    refine k_iconst hx hb dX3_setCrop_8 ?_
    refine lv_goto (tgt := 38) hx hb dX3_setCrop_9 (by decide) ?_
    refine k_mci (As := [.int (iI 1)]) (rest := []) ⟨hx, hb, hml, hown, hts⟩ (m_refused l G ad cy hI σ 1 (by decide)) (cwV 1 hts gX3_setCrop_X3_refused rfl rfl rfl (by decide +kernel) ⟨Nat.le_of_ble_eq_true rfl, Nat.le_of_ble_eq_true rfl⟩) (mRecv hK hP) hAc hA hK hP hS rfl hl.1 rfl (Nat.le_of_ble_eq_true rfl) dX3_setCrop_38 ⟨Nat.zero_le _, Nat.zero_le _⟩ (fun H locs hP hS => ?_)
    refine k_if_eq (tgt := 46) hx hb dX3_setCrop_41 (by decide) (gNz_nB _) (fun c9 => absurd c9 (by decide)) (fun _ => ?_)
    refine k_iconst hx hb dX3_setCrop_44 ?_
    have eQ : qSetCrop c x v = 1 := by unfold qSetCrop; (repeat' split) <;> first | rfl | omega
    have eF : up σ 0 0 1 = tOf (qSetCrop c x v) σ (up (up (up σ 0 0 0) 2 c.toNat x) 3 c.toNat v) := by (rw [tOf_n eQ (by decide)]); try (rfl)
    rw [eF] at hP
    have eR : 0 = rOf (qSetCrop c x v) (σ 2 c.toNat) := by (rw [rOf_n eQ (by decide)]); try (rfl)
    exact W.iret hx hb hr (fun t ht hW => ⟨⟨_, _, rfl, ⟨congrArg iI eR, rfl⟩, by rw [ht]; exact hP, va_K.moved hW.alike hK⟩, hS.F ht⟩) hS.2.2 dX3_setCrop_45
set_option maxHeartbeats 4000000 in
set_option maxRecDepth 100000 in
theorem m_add (l : Launch) (G : va_G) (ad : Nat → Nat) (cy : Nat → ClassId) (hI : mI ad) (σ : Sg) (g : Int) (hg : nB g) (hB : mBd σ) : mMi l yX3_add wsX3_add ({ frames := 1, cells := 0, slots := 0, locals := 22 } : Room) G ad cy [.ref (ad 0), .int (iI g)] σ (rOf (qAdd σ g) (σ 0 6)) (tOf (qAdd σ g) σ (up (gClear (up (up σ 0 0 0) 4 (σ 0 6).toNat g) (σ 0 6)) 0 6 ((σ 0 6) + 1))) := by
  intro sz
  refine Met.ofW (cc := cX3_add) (maxL := 2) (ret := (some .int)) (by decide) rfl ?_
  intro p e s m args below meth cd s₁ B hml hv
  obtain ⟨rfl, hsz, hP, hK⟩ := hv
  have hx := B.exec
  have hb := B.bytes
  have hr := B.returns
  have hts := atoms_spec (ws := wsX3_add) B.pre
  have hown : s.vm.findClass RX3 = some m.cls := findClass_of_methodNamed B.named
  have hlocks := B.notSynchronized
  subst hsz
  have hS : va_S (mA ad s.heap.size) s.heap s.heap [] := va_S.rf
  have hA : ∀ q, s.heap.size ≤ q → mA ad s.heap.size q := fun _ h => Or.inr h
  have hAc : ∀ j, j < 21 → mA ad s.heap.size (ad j) := fun j h => Or.inl ⟨j, h, rfl⟩
  have hl := lv_entry ([.ref (ad 0), .int (iI g)]) (n := 2) (Nat.le_of_ble_eq_true rfl)
  rw [lg_entry_eq]
  generalize (lg_sl ([.ref (ad 0), .int (iI g)]) ++ List.replicate (2 - (lg_sl ([.ref (ad 0), .int (iI g)])).length) Slot.unset).toArray = ls at hl ⊢
  have hl : lv_has ls 2 [(0, .ref (ad 0)), (1, .int (iI g))] := hl
  have hF3 : ∀ w ∈ wsX30, w ∈ wsX3_add := by decide +kernel
  have lf78 := hts (.fieldLink RX3 78 "HarvestLenderModel" "farmers" "I") (by decide +kernel)
  have lf19 := hts (.fieldLink RX3 19 "HarvestLenderModel" "groups" "[I") (by decide +kernel)
  have hcnt := hB.1.1
  have hstg := hB.1.2.2
  have hsea := hB.1.2.1
  refine lv_aload_n hx hb dX3_add_0 rfl (lv_at hl 0 rfl) ?_
  refine lv_iload_n hx hb dX3_add_1 rfl (lv_at hl 1 rfl) ?_
  refine k_iconst hx hb dX3_add_2 ?_
  refine k_iconst hx hb dX3_add_3 ?_
  refine k_msi (As := [.int (iI g), .int (iI 0), .int (iI 2)]) (rest := [.ref (ad 0)]) ⟨hx, hb, hml, hown, hts⟩ (m_in l G ad cy hI σ g 0 2 (by omega) (by decide) (by decide)) (va_cwS 3 hts gX3_add_X3_in rfl rfl rfl (by decide +kernel) ⟨Nat.le_of_ble_eq_true rfl, Nat.le_of_ble_eq_true rfl⟩) hAc hA hK hP hS rfl hl.1 rfl (Nat.le_of_ble_eq_true rfl) dX3_add_4 ⟨Nat.zero_le _, Nat.zero_le _⟩ (fun H locs hP hS => ?_)
  refine k_if_ne (tgt := 14) hx hb dX3_add_7 (by decide) (gIn_nB _ _ _) (fun c_1 => ?_) (fun c_1 => ?_)
  · have d_1 := c_1
    rw [gIn_0] at d_1
    refine lv_aload_n hx hb dX3_add_14 rfl (lv_at hl 0 rfl) ?_
    refine k_mg (v := .int (iI (σ 0 6))) hx hb hts hown hF3 hK hP 6 (by decide) lf78 dX3_add_15 rfl rfl ?_
    refine k_bipush hx hb dX3_add_18 (by decide) ?_
    refine k_icmp_ne (tgt := 27) hx hb dX3_add_20 (by decide) (by omega) (by decide) (fun c_2 => ?_) (fun c_2 => ?_)
    · refine k_iconst hx hb dX3_add_27 ?_
      refine k_mci (As := [.int (iI 0)]) (rest := []) ⟨hx, hb, hml, hown, hts⟩ (m_refused l G ad cy hI σ 0 (by decide)) (cwV 1 hts gX3_add_X3_refused rfl rfl rfl (by decide +kernel) ⟨Nat.le_of_ble_eq_true rfl, Nat.le_of_ble_eq_true rfl⟩) (mRecv hK hP) hAc hA hK hP hS rfl hl.1 rfl (Nat.le_of_ble_eq_true rfl) dX3_add_28 ⟨Nat.zero_le _, Nat.zero_le _⟩ (fun H locs hP hS => ?_)
      refine k_if_eq (tgt := 36) hx hb dX3_add_31 (by decide) (gNz_nB _) (fun _ => ?_) (fun c9 => absurd c9 (by decide))
      refine lv_aload_n hx hb dX3_add_36 rfl (lv_at hl 0 rfl) ?_
      refine k_mg (v := .ref (ad 4)) hx hb hts hown hF3 hK hP 7 (by decide) lf19 dX3_add_37 rfl rfl ?_
      refine lv_aload_n hx hb dX3_add_40 rfl (lv_at hl 0 rfl) ?_
      refine k_mg (v := .int (iI (σ 0 6))) hx hb hts hown hF3 hK hP 6 (by decide) lf78 dX3_add_41 rfl (congrArg (fun z => some (Value.int (iI z))) (by simp [up] : (up σ 0 0 0) 0 6 = σ 0 6)) ?_
      refine lv_iload_n hx hb dX3_add_44 rfl (lv_at hl 1 rfl) ?_
      refine k_mst (q := 4) (N := 8) (x := σ 0 6) (v := g) hx hb hI hAc hK hP hS (by decide) rfl (by omega) (by omega) (by decide) dX3_add_45 (fun H locs hP hS => ?_)
      refine lv_aload_n hx hb dX3_add_46 rfl (lv_at hl 0 rfl) ?_
      refine lv_aload_n hx hb dX3_add_47 rfl (lv_at hl 0 rfl) ?_
      refine k_mg (v := .int (iI (σ 0 6))) hx hb hts hown hF3 hK hP 6 (by decide) lf78 dX3_add_48 rfl (congrArg (fun z => some (Value.int (iI z))) (by simp [up] : (up (up σ 0 0 0) 4 ((σ 0 6).toNat) g) 0 6 = σ 0 6)) ?_
      refine k_mcv (As := [.int (iI (σ 0 6))]) (rest := []) ⟨hx, hb, hml, hown, hts⟩ (m_clear l G ad cy hI (up (up σ 0 0 0) 4 ((σ 0 6).toNat) g) (σ 0 6) (by omega) (by omega)) (cwV 1 hts gX3_add_X3_clear rfl rfl rfl (by decide +kernel) ⟨Nat.le_of_ble_eq_true rfl, Nat.le_of_ble_eq_true rfl⟩) (mRecv hK hP) hAc hA hK hP hS rfl hl.1 rfl (Nat.le_of_ble_eq_true rfl) dX3_add_51 ⟨Nat.zero_le _, Nat.zero_le _⟩ (fun H locs hP hS => ?_)
      refine lv_aload_n hx hb dX3_add_54 rfl (lv_at hl 0 rfl) ?_
      refine lv_dup hx hb dX3_add_55 rfl ?_
      refine k_mg (v := .int (iI (σ 0 6))) hx hb hts hown hF3 hK hP 6 (by decide) lf78 dX3_add_56 rfl (congrArg (fun z => some (Value.int (iI z))) (by simp [gClear, up] : (gClear (up (up σ 0 0 0) 4 ((σ 0 6).toNat) g) (σ 0 6)) 0 6 = σ 0 6)) ?_
      refine k_iconst hx hb dX3_add_59 ?_
      refine k_iadd hx hb dX3_add_60 ?_
      refine k_mp (v := (σ 0 6) + 1) hx hb hts hown hF3 hI hAc hK hP hS 6 (by decide) (by decide) lf78 dX3_add_61 rfl rfl (by decide +kernel) (fun H locs hP hS => ?_)
      refine lv_aload_n hx hb dX3_add_64 rfl (lv_at hl 0 rfl) ?_
      refine k_mg (v := .int (iI ((σ 0 6) + 1))) hx hb hts hown hF3 hK hP 6 (by decide) lf78 dX3_add_65 rfl (congrArg (fun z => some (Value.int (iI z))) (by simp [up] : (up (gClear (up (up σ 0 0 0) 4 ((σ 0 6).toNat) g) (σ 0 6)) 0 6 ((σ 0 6) + 1)) 0 6 = (σ 0 6) + 1)) ?_
      refine k_iconst hx hb dX3_add_68 ?_
      refine k_isub hx hb dX3_add_69 ?_
      have eQ : qAdd σ g = 0 := by unfold qAdd; (repeat' split) <;> first | rfl | omega
      have eF : up (gClear (up (up σ 0 0 0) 4 ((σ 0 6).toNat) g) (σ 0 6)) 0 6 ((σ 0 6) + 1) = tOf (qAdd σ g) σ (up (gClear (up (up σ 0 0 0) 4 (σ 0 6).toNat g) (σ 0 6)) 0 6 ((σ 0 6) + 1)) := by (rw [tOf_0 eQ]); try (first | rfl | (simp only [up_s]; done) | (simp only [up_s]; repeat' split) <;> first | rfl | (exfalso; omega) | omega)
      rw [eF] at hP
      have eR : ((σ 0 6) + 1) - 1 = rOf (qAdd σ g) (σ 0 6) := by (rw [rOf_0 eQ]); try (omega)
      exact W.iret hx hb hr (fun t ht hW => ⟨⟨_, _, rfl, ⟨congrArg iI eR, rfl⟩, by rw [ht]; exact hP, va_K.moved hW.alike hK⟩, hS.F ht⟩) hS.2.2 dX3_add_70
    · refine k_iconst hx hb dX3_add_23 ?_
      refine lv_goto (tgt := 28) hx hb dX3_add_24 (by decide) ?_
      refine k_mci (As := [.int (iI 2)]) (rest := []) ⟨hx, hb, hml, hown, hts⟩ (m_refused l G ad cy hI σ 2 (by decide)) (cwV 1 hts gX3_add_X3_refused rfl rfl rfl (by decide +kernel) ⟨Nat.le_of_ble_eq_true rfl, Nat.le_of_ble_eq_true rfl⟩) (mRecv hK hP) hAc hA hK hP hS rfl hl.1 rfl (Nat.le_of_ble_eq_true rfl) dX3_add_28 ⟨Nat.zero_le _, Nat.zero_le _⟩ (fun H locs hP hS => ?_)
      refine k_if_eq (tgt := 36) hx hb dX3_add_31 (by decide) (gNz_nB _) (fun c9 => absurd c9 (by decide)) (fun _ => ?_)
      refine k_iconst hx hb dX3_add_34 ?_
      have eQ : qAdd σ g = 2 := by unfold qAdd; (repeat' split) <;> first | rfl | omega
      have eF : up σ 0 0 2 = tOf (qAdd σ g) σ (up (gClear (up (up σ 0 0 0) 4 (σ 0 6).toNat g) (σ 0 6)) 0 6 ((σ 0 6) + 1)) := by (rw [tOf_n eQ (by decide)]); try (rfl)
      rw [eF] at hP
      have eR : 0 = rOf (qAdd σ g) (σ 0 6) := by (rw [rOf_n eQ (by decide)]); try (rfl)
      exact W.iret hx hb hr (fun t ht hW => ⟨⟨_, _, rfl, ⟨congrArg iI eR, rfl⟩, by rw [ht]; exact hP, va_K.moved hW.alike hK⟩, hS.F ht⟩) hS.2.2 dX3_add_35
  · have d_1 := c_1
    rw [gIn_0] at d_1
    refine k_iconst hx hb dX3_add_10 ?_
    refine lv_goto (tgt := 28) hx hb dX3_add_11 (by decide) ?_
    refine k_mci (As := [.int (iI 1)]) (rest := []) ⟨hx, hb, hml, hown, hts⟩ (m_refused l G ad cy hI σ 1 (by decide)) (cwV 1 hts gX3_add_X3_refused rfl rfl rfl (by decide +kernel) ⟨Nat.le_of_ble_eq_true rfl, Nat.le_of_ble_eq_true rfl⟩) (mRecv hK hP) hAc hA hK hP hS rfl hl.1 rfl (Nat.le_of_ble_eq_true rfl) dX3_add_28 ⟨Nat.zero_le _, Nat.zero_le _⟩ (fun H locs hP hS => ?_)
    refine k_if_eq (tgt := 36) hx hb dX3_add_31 (by decide) (gNz_nB _) (fun c9 => absurd c9 (by decide)) (fun _ => ?_)
    refine k_iconst hx hb dX3_add_34 ?_
    have eQ : qAdd σ g = 1 := by unfold qAdd; (repeat' split) <;> first | rfl | omega
    have eF : up σ 0 0 1 = tOf (qAdd σ g) σ (up (gClear (up (up σ 0 0 0) 4 (σ 0 6).toNat g) (σ 0 6)) 0 6 ((σ 0 6) + 1)) := by (rw [tOf_n eQ (by decide)]); try (rfl)
    rw [eF] at hP
    have eR : 0 = rOf (qAdd σ g) (σ 0 6) := by (rw [rOf_n eQ (by decide)]); try (rfl)
    exact W.iret hx hb hr (fun t ht hW => ⟨⟨_, _, rfl, ⟨congrArg iI eR, rfl⟩, by rw [ht]; exact hP, va_K.moved hW.alike hK⟩, hS.F ht⟩) hS.2.2 dX3_add_35
