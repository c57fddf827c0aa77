set_option maxHeartbeats 4000000 in
set_option maxRecDepth 100000 in
theorem c_X3_init (l : Launch) (G : va_G) (cy : Nat → ClassId) (h0 sz : Nat) : Met l yX3_init wsX3_init ({ frames := 1, cells := 20, slots := 202, locals := 12 } : Room) (iPc G cy h0 dM sz) (va_Qv (fun ad : Nat → Nat => ad 0 = h0 ∧ mI ad) (fun ad t => va_P G vwCl (mW ad cy (mS2 3)) t.heap ∧ va_K G vwCl (cT cy) t ∧ va_D (va_A [(h0, dM)] sz) (mW ad cy (mS2 3))) (va_A [(h0, dM)] sz)) 20 202 (va_A [(h0, dM)] sz) := by
  refine Met.ofW (cc := cX3_init) (maxL := 2) (ret := none) (by decide) rfl ?_
  intro p e s m args below meth c s₁ B hml hv
  obtain ⟨rfl, hsz, hP, hK⟩ := hv
  have hx := B.exec
  have hb := B.bytes
  have hr := B.returns
  have hts := atoms_spec (ws := wsX3_init) B.pre
  have hown : s.vm.findClass RX3 = some m.cls := findClass_of_methodNamed B.named
  have hlocks := B.notSynchronized
  have hin : meth.name = "<init>" := (name_of_methodNamed B.named B.method).1
  subst hsz
  generalize hAe : va_A [(h0, dM)] s.heap.size = A
  have hA : ∀ q : Nat, s.heap.size ≤ q → A q := fun q h => by rw [← hAe]; exact Or.inr h
  have hD : va_D A [(h0, dM)] := d1 (by rw [← hAe]; exact Or.inl ⟨0, _, rfl⟩)
  have hS : va_S A s.heap s.heap [] := va_S.rf
  have hl := lv_entry ([.ref h0]) (n := 2) (Nat.le_of_ble_eq_true rfl)
  rw [lg_entry_eq]
  generalize (lg_sl ([.ref h0]) ++ List.replicate (2 - (lg_sl ([.ref h0])).length) Slot.unset).toArray = ls at hl ⊢
  have hl : lv_has ls 2 [(0, .ref h0)] := hl
  refine lv_aload_n hx hb dX3_init_0 rfl (lv_at hl 0 rfl) ?_
  refine W.objInit hx hb hown (hts (.methodLink RX3 1 objectInit) (by decide +kernel)) (hts (.instanceMethod objectInit) (by decide +kernel)) (hts _ (List.mem_cons_of_mem _ (List.mem_append_left _ (List.mem_of_getElem? (i := 2) rfl)))) rfl (by rw [hml]; exact hl.1) rfl dX3_init_1 (Nat.le_of_ble_eq_true rfl) (Nat.le_of_ble_eq_true rfl) ?_
  refine W.eq (g2 := F0 m 4 ls []) rfl ?_
  refine lv_aload_n hx hb dX3_init_4 rfl (lv_at hl 0 rfl) ?_
  refine k_bipush (n := 12) hx hb dX3_init_5 (by decide) ?_
  refine W.widen (k := 0) (n := 0) (Nat.le_of_ble_eq_true rfl) (Nat.le_of_ble_eq_true rfl) ?_
  refine k_newI hx hb (hts (.arrayClass .int) (by decide +kernel)) hK hP hD hS hA 12 (by decide) rfl (by decide) (Nat.le_of_ble_eq_true rfl) (Nat.le_of_ble_eq_true rfl) dX3_init_7 (fun q1 H hP hD hS => ?_)
  have hP : va_P G vwCl [(h0, .inr (3, [.int 0, .int 0, .int 0, .null, .null, .null, .int 0, .null, .null, .null, .null, .null, .null, .null, .null, .null, .null, .null, .null, .null, .null, .null, .null, .null])), (q1, eI0 cy 12)] H := hP
  have hD : va_D A [(h0, .inr (3, [.int 0, .int 0, .int 0, .null, .null, .null, .int 0, .null, .null, .null, .null, .null, .null, .null, .null, .null, .null, .null, .null, .null, .null, .null, .null, .null])), (q1, eI0 cy 12)] := hD
  refine va_putF (D := G) (ci := 3) (v := .ref q1) (ty := (.array .int)) (C := RX3) (T := TX3) (N := 24) hx hb hts (by decide +kernel) tyX3 tyX3_ok nmX3 hown hK hP hD hS 0 rfl rfl 3 (by decide) (hts (.fieldLink RX3 7 "HarvestLenderModel" "needs" "[I") (by decide +kernel)) (fun _ h9 => h9) rfl hin rfl (by decide +kernel) rfl rfl (Nat.le_of_ble_eq_true rfl) dX3_init_9 (fun H locs hP hD hS => ?_)
  have hP : va_P G vwCl [(h0, .inr (3, [.int 0, .int 0, .int 0, .ref q1, .null, .null, .int 0, .null, .null, .null, .null, .null, .null, .null, .null, .null, .null, .null, .null, .null, .null, .null, .null, .null])), (q1, eI0 cy 12)] H := hP
  have hD : va_D A [(h0, .inr (3, [.int 0, .int 0, .int 0, .ref q1, .null, .null, .int 0, .null, .null, .null, .null, .null, .null, .null, .null, .null, .null, .null, .null, .null, .null, .null, .null, .null])), (q1, eI0 cy 12)] := hD
  refine lv_aload_n hx hb dX3_init_12 rfl (lv_at hl 0 rfl) ?_
  refine k_iconst hx hb dX3_init_13 ?_
  refine W.widen (k := 1) (n := 12) (Nat.le_of_ble_eq_true rfl) (Nat.le_of_ble_eq_true rfl) ?_
  refine k_newI hx hb (hts (.arrayClass .int) (by decide +kernel)) hK hP hD hS hA 3 (by decide) rfl (by decide) (Nat.le_of_ble_eq_true rfl) (Nat.le_of_ble_eq_true rfl) dX3_init_14 (fun q2 H hP hD hS => ?_)
  have hP : va_P G vwCl [(h0, .inr (3, [.int 0, .int 0, .int 0, .ref q1, .null, .null, .int 0, .null, .null, .null, .null, .null, .null, .null, .null, .null, .null, .null, .null, .null, .null, .null, .null, .null])), (q1, eI0 cy 12), (q2, eI0 cy 3)] H := hP
  have hD : va_D A [(h0, .inr (3, [.int 0, .int 0, .int 0, .ref q1, .null, .null, .int 0, .null, .null, .null, .null, .null, .null, .null, .null, .null, .null, .null, .null, .null, .null, .null, .null, .null])), (q1, eI0 cy 12), (q2, eI0 cy 3)] := hD
  refine va_putF (D := G) (ci := 3) (v := .ref q2) (ty := (.array .int)) (C := RX3) (T := TX3) (N := 24) hx hb hts (by decide +kernel) tyX3 tyX3_ok nmX3 hown hK hP hD hS 0 rfl rfl 4 (by decide) (hts (.fieldLink RX3 13 "HarvestLenderModel" "prices" "[I") (by decide +kernel)) (fun _ h9 => h9) rfl hin rfl (by decide +kernel) rfl rfl (Nat.le_of_ble_eq_true rfl) dX3_init_16 (fun H locs hP hD hS => ?_)
  have hP : va_P G vwCl [(h0, .inr (3, [.int 0, .int 0, .int 0, .ref q1, .ref q2, .null, .int 0, .null, .null, .null, .null, .null, .null, .null, .null, .null, .null, .null, .null, .null, .null, .null, .null, .null])), (q1, eI0 cy 12), (q2, eI0 cy 3)] H := hP
  have hD : va_D A [(h0, .inr (3, [.int 0, .int 0, .int 0, .ref q1, .ref q2, .null, .int 0, .null, .null, .null, .null, .null, .null, .null, .null, .null, .null, .null, .null, .null, .null, .null, .null, .null])), (q1, eI0 cy 12), (q2, eI0 cy 3)] := hD
  refine lv_aload_n hx hb dX3_init_19 rfl (lv_at hl 0 rfl) ?_
  refine k_iconst hx hb dX3_init_20 ?_
  refine W.widen (k := 2) (n := 15) (Nat.le_of_ble_eq_true rfl) (Nat.le_of_ble_eq_true rfl) ?_
  refine k_newI hx hb (hts (.arrayClass .int) (by decide +kernel)) hK hP hD hS hA 3 (by decide) rfl (by decide) (Nat.le_of_ble_eq_true rfl) (Nat.le_of_ble_eq_true rfl) dX3_init_21 (fun q3 H hP hD hS => ?_)
  have hP : va_P G vwCl [(h0, .inr (3, [.int 0, .int 0, .int 0, .ref q1, .ref q2, .null, .int 0, .null, .null, .null, .null, .null, .null, .null, .null, .null, .null, .null, .null, .null, .null, .null, .null, .null])), (q1, eI0 cy 12), (q2, eI0 cy 3), (q3, eI0 cy 3)] H := hP
  have hD : va_D A [(h0, .inr (3, [.int 0, .int 0, .int 0, .ref q1, .ref q2, .null, .int 0, .null, .null, .null, .null, .null, .null, .null, .null, .null, .null, .null, .null, .null, .null, .null, .null, .null])), (q1, eI0 cy 12), (q2, eI0 cy 3), (q3, eI0 cy 3)] := hD
  refine va_putF (D := G) (ci := 3) (v := .ref q3) (ty := (.array .int)) (C := RX3) (T := TX3) (N := 24) hx hb hts (by decide +kernel) tyX3 tyX3_ok nmX3 hown hK hP hD hS 0 rfl rfl 5 (by decide) (hts (.fieldLink RX3 16 "HarvestLenderModel" "normals" "[I") (by decide +kernel)) (fun _ h9 => h9) rfl hin rfl (by decide +kernel) rfl rfl (Nat.le_of_ble_eq_true rfl) dX3_init_23 (fun H locs hP hD hS => ?_)
  have hP : va_P G vwCl [(h0, .inr (3, [.int 0, .int 0, .int 0, .ref q1, .ref q2, .ref q3, .int 0, .null, .null, .null, .null, .null, .null, .null, .null, .null, .null, .null, .null, .null, .null, .null, .null, .null])), (q1, eI0 cy 12), (q2, eI0 cy 3), (q3, eI0 cy 3)] H := hP
  have hD : va_D A [(h0, .inr (3, [.int 0, .int 0, .int 0, .ref q1, .ref q2, .ref q3, .int 0, .null, .null, .null, .null, .null, .null, .null, .null, .null, .null, .null, .null, .null, .null, .null, .null, .null])), (q1, eI0 cy 12), (q2, eI0 cy 3), (q3, eI0 cy 3)] := hD
  refine lv_aload_n hx hb dX3_init_26 rfl (lv_at hl 0 rfl) ?_
  refine k_bipush (n := 8) hx hb dX3_init_27 (by decide) ?_
  refine W.widen (k := 3) (n := 18) (Nat.le_of_ble_eq_true rfl) (Nat.le_of_ble_eq_true rfl) ?_
  refine k_newI hx hb (hts (.arrayClass .int) (by decide +kernel)) hK hP hD hS hA 8 (by decide) rfl (by decide) (Nat.le_of_ble_eq_true rfl) (Nat.le_of_ble_eq_true rfl) dX3_init_29 (fun q4 H hP hD hS => ?_)
  have hP : va_P G vwCl [(h0, .inr (3, [.int 0, .int 0, .int 0, .ref q1, .ref q2, .ref q3, .int 0, .null, .null, .null, .null, .null, .null, .null, .null, .null, .null, .null, .null, .null, .null, .null, .null, .null])), (q1, eI0 cy 12), (q2, eI0 cy 3), (q3, eI0 cy 3), (q4, eI0 cy 8)] H := hP
  have hD : va_D A [(h0, .inr (3, [.int 0, .int 0, .int 0, .ref q1, .ref q2, .ref q3, .int 0, .null, .null, .null, .null, .null, .null, .null, .null, .null, .null, .null, .null, .null, .null, .null, .null, .null])), (q1, eI0 cy 12), (q2, eI0 cy 3), (q3, eI0 cy 3), (q4, eI0 cy 8)] := hD
  refine va_putF (D := G) (ci := 3) (v := .ref q4) (ty := (.array .int)) (C := RX3) (T := TX3) (N := 24) hx hb hts (by decide +kernel) tyX3 tyX3_ok nmX3 hown hK hP hD hS 0 rfl rfl 7 (by decide) (hts (.fieldLink RX3 19 "HarvestLenderModel" "groups" "[I") (by decide +kernel)) (fun _ h9 => h9) rfl hin rfl (by decide +kernel) rfl rfl (Nat.le_of_ble_eq_true rfl) dX3_init_31 (fun H locs hP hD hS => ?_)
  have hP : va_P G vwCl [(h0, .inr (3, [.int 0, .int 0, .int 0, .ref q1, .ref q2, .ref q3, .int 0, .ref q4, .null, .null, .null, .null, .null, .null, .null, .null, .null, .null, .null, .null, .null, .null, .null, .null])), (q1, eI0 cy 12), (q2, eI0 cy 3), (q3, eI0 cy 3), (q4, eI0 cy 8)] H := hP
  have hD : va_D A [(h0, .inr (3, [.int 0, .int 0, .int 0, .ref q1, .ref q2, .ref q3, .int 0, .ref q4, .null, .null, .null, .null, .null, .null, .null, .null, .null, .null, .null, .null, .null, .null, .null, .null])), (q1, eI0 cy 12), (q2, eI0 cy 3), (q3, eI0 cy 3), (q4, eI0 cy 8)] := hD
  refine lv_aload_n hx hb dX3_init_34 rfl (lv_at hl 0 rfl) ?_
  refine k_bipush (n := 8) hx hb dX3_init_35 (by decide) ?_
  refine W.widen (k := 4) (n := 26) (Nat.le_of_ble_eq_true rfl) (Nat.le_of_ble_eq_true rfl) ?_
  refine k_newI hx hb (hts (.arrayClass .int) (by decide +kernel)) hK hP hD hS hA 8 (by decide) rfl (by decide) (Nat.le_of_ble_eq_true rfl) (Nat.le_of_ble_eq_true rfl) dX3_init_37 (fun q5 H hP hD hS => ?_)
  have hP : va_P G vwCl [(h0, .inr (3, [.int 0, .int 0, .int 0, .ref q1, .ref q2, .ref q3, .int 0, .ref q4, .null, .null, .null, .null, .null, .null, .null, .null, .null, .null, .null, .null, .null, .null, .null, .null])), (q1, eI0 cy 12), (q2, eI0 cy 3), (q3, eI0 cy 3), (q4, eI0 cy 8), (q5, eI0 cy 8)] H := hP
  have hD : va_D A [(h0, .inr (3, [.int 0, .int 0, .int 0, .ref q1, .ref q2, .ref q3, .int 0, .ref q4, .null, .null, .null, .null, .null, .null, .null, .null, .null, .null, .null, .null, .null, .null, .null, .null])), (q1, eI0 cy 12), (q2, eI0 cy 3), (q3, eI0 cy 3), (q4, eI0 cy 8), (q5, eI0 cy 8)] := hD
  refine va_putF (D := G) (ci := 3) (v := .ref q5) (ty := (.array .int)) (C := RX3) (T := TX3) (N := 24) hx hb hts (by decide +kernel) tyX3 tyX3_ok nmX3 hown hK hP hD hS 0 rfl rfl 8 (by decide) (hts (.fieldLink RX3 22 "HarvestLenderModel" "purses" "[I") (by decide +kernel)) (fun _ h9 => h9) rfl hin rfl (by decide +kernel) rfl rfl (Nat.le_of_ble_eq_true rfl) dX3_init_39 (fun H locs hP hD hS => ?_)
  have hP : va_P G vwCl [(h0, .inr (3, [.int 0, .int 0, .int 0, .ref q1, .ref q2, .ref q3, .int 0, .ref q4, .ref q5, .null, .null, .null, .null, .null, .null, .null, .null, .null, .null, .null, .null, .null, .null, .null])), (q1, eI0 cy 12), (q2, eI0 cy 3), (q3, eI0 cy 3), (q4, eI0 cy 8), (q5, eI0 cy 8)] H := hP
  have hD : va_D A [(h0, .inr (3, [.int 0, .int 0, .int 0, .ref q1, .ref q2, .ref q3, .int 0, .ref q4, .ref q5, .null, .null, .null, .null, .null, .null, .null, .null, .null, .null, .null, .null, .null, .null, .null])), (q1, eI0 cy 12), (q2, eI0 cy 3), (q3, eI0 cy 3), (q4, eI0 cy 8), (q5, eI0 cy 8)] := hD
  refine lv_aload_n hx hb dX3_init_42 rfl (lv_at hl 0 rfl) ?_
  refine k_bipush (n := 8) hx hb dX3_init_43 (by decide) ?_
  refine W.widen (k := 5) (n := 34) (Nat.le_of_ble_eq_true rfl) (Nat.le_of_ble_eq_true rfl) ?_
  refine k_newI hx hb (hts (.arrayClass .int) (by decide +kernel)) hK hP hD hS hA 8 (by decide) rfl (by decide) (Nat.le_of_ble_eq_true rfl) (Nat.le_of_ble_eq_true rfl) dX3_init_45 (fun q6 H hP hD hS => ?_)
  have hP : va_P G vwCl [(h0, .inr (3, [.int 0, .int 0, .int 0, .ref q1, .ref q2, .ref q3, .int 0, .ref q4, .ref q5, .null, .null, .null, .null, .null, .null, .null, .null, .null, .null, .null, .null, .null, .null, .null])), (q1, eI0 cy 12), (q2, eI0 cy 3), (q3, eI0 cy 3), (q4, eI0 cy 8), (q5, eI0 cy 8), (q6, eI0 cy 8)] H := hP
  have hD : va_D A [(h0, .inr (3, [.int 0, .int 0, .int 0, .ref q1, .ref q2, .ref q3, .int 0, .ref q4, .ref q5, .null, .null, .null, .null, .null, .null, .null, .null, .null, .null, .null, .null, .null, .null, .null])), (q1, eI0 cy 12), (q2, eI0 cy 3), (q3, eI0 cy 3), (q4, eI0 cy 8), (q5, eI0 cy 8), (q6, eI0 cy 8)] := hD
  refine va_putF (D := G) (ci := 3) (v := .ref q6) (ty := (.array .int)) (C := RX3) (T := TX3) (N := 24) hx hb hts (by decide +kernel) tyX3 tyX3_ok nmX3 hown hK hP hD hS 0 rfl rfl 9 (by decide) (hts (.fieldLink RX3 25 "HarvestLenderModel" "debts" "[I") (by decide +kernel)) (fun _ h9 => h9) rfl hin rfl (by decide +kernel) rfl rfl (Nat.le_of_ble_eq_true rfl) dX3_init_47 (fun H locs hP hD hS => ?_)
  have hP : va_P G vwCl [(h0, .inr (3, [.int 0, .int 0, .int 0, .ref q1, .ref q2, .ref q3, .int 0, .ref q4, .ref q5, .ref q6, .null, .null, .null, .null, .null, .null, .null, .null, .null, .null, .null, .null, .null, .null])), (q1, eI0 cy 12), (q2, eI0 cy 3), (q3, eI0 cy 3), (q4, eI0 cy 8), (q5, eI0 cy 8), (q6, eI0 cy 8)] H := hP
  have hD : va_D A [(h0, .inr (3, [.int 0, .int 0, .int 0, .ref q1, .ref q2, .ref q3, .int 0, .ref q4, .ref q5, .ref q6, .null, .null, .null, .null, .null, .null, .null, .null, .null, .null, .null, .null, .null, .null])), (q1, eI0 cy 12), (q2, eI0 cy 3), (q3, eI0 cy 3), (q4, eI0 cy 8), (q5, eI0 cy 8), (q6, eI0 cy 8)] := hD
  refine lv_aload_n hx hb dX3_init_50 rfl (lv_at hl 0 rfl) ?_
  refine k_bipush (n := 8) hx hb dX3_init_51 (by decide) ?_
  refine W.widen (k := 6) (n := 42) (Nat.le_of_ble_eq_true rfl) (Nat.le_of_ble_eq_true rfl) ?_
  refine k_newI hx hb (hts (.arrayClass .int) (by decide +kernel)) hK hP hD hS hA 8 (by decide) rfl (by decide) (Nat.le_of_ble_eq_true rfl) (Nat.le_of_ble_eq_true rfl) dX3_init_53 (fun q7 H hP hD hS => ?_)
  have hP : va_P G vwCl [(h0, .inr (3, [.int 0, .int 0, .int 0, .ref q1, .ref q2, .ref q3, .int 0, .ref q4, .ref q5, .ref q6, .null, .null, .null, .null, .null, .null, .null, .null, .null, .null, .null, .null, .null, .null])), (q1, eI0 cy 12), (q2, eI0 cy 3), (q3, eI0 cy 3), (q4, eI0 cy 8), (q5, eI0 cy 8), (q6, eI0 cy 8), (q7, eI0 cy 8)] H := hP
  have hD : va_D A [(h0, .inr (3, [.int 0, .int 0, .int 0, .ref q1, .ref q2, .ref q3, .int 0, .ref q4, .ref q5, .ref q6, .null, .null, .null, .null, .null, .null, .null, .null, .null, .null, .null, .null, .null, .null])), (q1, eI0 cy 12), (q2, eI0 cy 3), (q3, eI0 cy 3), (q4, eI0 cy 8), (q5, eI0 cy 8), (q6, eI0 cy 8), (q7, eI0 cy 8)] := hD
  refine va_putF (D := G) (ci := 3) (v := .ref q7) (ty := (.array .int)) (C := RX3) (T := TX3) (N := 24) hx hb hts (by decide +kernel) tyX3 tyX3_ok nmX3 hown hK hP hD hS 0 rfl rfl 10 (by decide) (hts (.fieldLink RX3 28 "HarvestLenderModel" "grainCrops" "[I") (by decide +kernel)) (fun _ h9 => h9) rfl hin rfl (by decide +kernel) rfl rfl (Nat.le_of_ble_eq_true rfl) dX3_init_55 (fun H locs hP hD hS => ?_)
  have hP : va_P G vwCl [(h0, .inr (3, [.int 0, .int 0, .int 0, .ref q1, .ref q2, .ref q3, .int 0, .ref q4, .ref q5, .ref q6, .ref q7, .null, .null, .null, .null, .null, .null, .null, .null, .null, .null, .null, .null, .null])), (q1, eI0 cy 12), (q2, eI0 cy 3), (q3, eI0 cy 3), (q4, eI0 cy 8), (q5, eI0 cy 8), (q6, eI0 cy 8), (q7, eI0 cy 8)] H := hP
  have hD : va_D A [(h0, .inr (3, [.int 0, .int 0, .int 0, .ref q1, .ref q2, .ref q3, .int 0, .ref q4, .ref q5, .ref q6, .ref q7, .null, .null, .null, .null, .null, .null, .null, .null, .null, .null, .null, .null, .null])), (q1, eI0 cy 12), (q2, eI0 cy 3), (q3, eI0 cy 3), (q4, eI0 cy 8), (q5, eI0 cy 8), (q6, eI0 cy 8), (q7, eI0 cy 8)] := hD
  refine lv_aload_n hx hb dX3_init_58 rfl (lv_at hl 0 rfl) ?_
  refine k_bipush (n := 8) hx hb dX3_init_59 (by decide) ?_
  refine W.widen (k := 7) (n := 50) (Nat.le_of_ble_eq_true rfl) (Nat.le_of_ble_eq_true rfl) ?_
  refine k_newI hx hb (hts (.arrayClass .int) (by decide +kernel)) hK hP hD hS hA 8 (by decide) rfl (by decide) (Nat.le_of_ble_eq_true rfl) (Nat.le_of_ble_eq_true rfl) dX3_init_61 (fun q8 H hP hD hS => ?_)
  have hP : va_P G vwCl [(h0, .inr (3, [.int 0, .int 0, .int 0, .ref q1, .ref q2, .ref q3, .int 0, .ref q4, .ref q5, .ref q6, .ref q7, .null, .null, .null, .null, .null, .null, .null, .null, .null, .null, .null, .null, .null])), (q1, eI0 cy 12), (q2, eI0 cy 3), (q3, eI0 cy 3), (q4, eI0 cy 8), (q5, eI0 cy 8), (q6, eI0 cy 8), (q7, eI0 cy 8), (q8, eI0 cy 8)] H := hP
  have hD : va_D A [(h0, .inr (3, [.int 0, .int 0, .int 0, .ref q1, .ref q2, .ref q3, .int 0, .ref q4, .ref q5, .ref q6, .ref q7, .null, .null, .null, .null, .null, .null, .null, .null, .null, .null, .null, .null, .null])), (q1, eI0 cy 12), (q2, eI0 cy 3), (q3, eI0 cy 3), (q4, eI0 cy 8), (q5, eI0 cy 8), (q6, eI0 cy 8), (q7, eI0 cy 8), (q8, eI0 cy 8)] := hD
  refine va_putF (D := G) (ci := 3) (v := .ref q8) (ty := (.array .int)) (C := RX3) (T := TX3) (N := 24) hx hb hts (by decide +kernel) tyX3 tyX3_ok nmX3 hown hK hP hD hS 0 rfl rfl 11 (by decide) (hts (.fieldLink RX3 31 "HarvestLenderModel" "grains" "[I") (by decide +kernel)) (fun _ h9 => h9) rfl hin rfl (by decide +kernel) rfl rfl (Nat.le_of_ble_eq_true rfl) dX3_init_63 (fun H locs hP hD hS => ?_)
  have hP : va_P G vwCl [(h0, .inr (3, [.int 0, .int 0, .int 0, .ref q1, .ref q2, .ref q3, .int 0, .ref q4, .ref q5, .ref q6, .ref q7, .ref q8, .null, .null, .null, .null, .null, .null, .null, .null, .null, .null, .null, .null])), (q1, eI0 cy 12), (q2, eI0 cy 3), (q3, eI0 cy 3), (q4, eI0 cy 8), (q5, eI0 cy 8), (q6, eI0 cy 8), (q7, eI0 cy 8), (q8, eI0 cy 8)] H := hP
  have hD : va_D A [(h0, .inr (3, [.int 0, .int 0, .int 0, .ref q1, .ref q2, .ref q3, .int 0, .ref q4, .ref q5, .ref q6, .ref q7, .ref q8, .null, .null, .null, .null, .null, .null, .null, .null, .null, .null, .null, .null])), (q1, eI0 cy 12), (q2, eI0 cy 3), (q3, eI0 cy 3), (q4, eI0 cy 8), (q5, eI0 cy 8), (q6, eI0 cy 8), (q7, eI0 cy 8), (q8, eI0 cy 8)] := hD
  refine lv_aload_n hx hb dX3_init_66 rfl (lv_at hl 0 rfl) ?_
  refine k_bipush (n := 8) hx hb dX3_init_67 (by decide) ?_
  refine W.widen (k := 8) (n := 58) (Nat.le_of_ble_eq_true rfl) (Nat.le_of_ble_eq_true rfl) ?_
  refine k_newI hx hb (hts (.arrayClass .int) (by decide +kernel)) hK hP hD hS hA 8 (by decide) rfl (by decide) (Nat.le_of_ble_eq_true rfl) (Nat.le_of_ble_eq_true rfl) dX3_init_69 (fun q9 H hP hD hS => ?_)
  have hP : va_P G vwCl [(h0, .inr (3, [.int 0, .int 0, .int 0, .ref q1, .ref q2, .ref q3, .int 0, .ref q4, .ref q5, .ref q6, .ref q7, .ref q8, .null, .null, .null, .null, .null, .null, .null, .null, .null, .null, .null, .null])), (q1, eI0 cy 12), (q2, eI0 cy 3), (q3, eI0 cy 3), (q4, eI0 cy 8), (q5, eI0 cy 8), (q6, eI0 cy 8), (q7, eI0 cy 8), (q8, eI0 cy 8), (q9, eI0 cy 8)] H := hP
  have hD : va_D A [(h0, .inr (3, [.int 0, .int 0, .int 0, .ref q1, .ref q2, .ref q3, .int 0, .ref q4, .ref q5, .ref q6, .ref q7, .ref q8, .null, .null, .null, .null, .null, .null, .null, .null, .null, .null, .null, .null])), (q1, eI0 cy 12), (q2, eI0 cy 3), (q3, eI0 cy 3), (q4, eI0 cy 8), (q5, eI0 cy 8), (q6, eI0 cy 8), (q7, eI0 cy 8), (q8, eI0 cy 8), (q9, eI0 cy 8)] := hD
  refine va_putF (D := G) (ci := 3) (v := .ref q9) (ty := (.array .int)) (C := RX3) (T := TX3) (N := 24) hx hb hts (by decide +kernel) tyX3 tyX3_ok nmX3 hown hK hP hD hS 0 rfl rfl 12 (by decide) (hts (.fieldLink RX3 34 "HarvestLenderModel" "pledged" "[I") (by decide +kernel)) (fun _ h9 => h9) rfl hin rfl (by decide +kernel) rfl rfl (Nat.le_of_ble_eq_true rfl) dX3_init_71 (fun H locs hP hD hS => ?_)
  have hP : va_P G vwCl [(h0, .inr (3, [.int 0, .int 0, .int 0, .ref q1, .ref q2, .ref q3, .int 0, .ref q4, .ref q5, .ref q6, .ref q7, .ref q8, .ref q9, .null, .null, .null, .null, .null, .null, .null, .null, .null, .null, .null])), (q1, eI0 cy 12), (q2, eI0 cy 3), (q3, eI0 cy 3), (q4, eI0 cy 8), (q5, eI0 cy 8), (q6, eI0 cy 8), (q7, eI0 cy 8), (q8, eI0 cy 8), (q9, eI0 cy 8)] H := hP
  have hD : va_D A [(h0, .inr (3, [.int 0, .int 0, .int 0, .ref q1, .ref q2, .ref q3, .int 0, .ref q4, .ref q5, .ref q6, .ref q7, .ref q8, .ref q9, .null, .null, .null, .null, .null, .null, .null, .null, .null, .null, .null])), (q1, eI0 cy 12), (q2, eI0 cy 3), (q3, eI0 cy 3), (q4, eI0 cy 8), (q5, eI0 cy 8), (q6, eI0 cy 8), (q7, eI0 cy 8), (q8, eI0 cy 8), (q9, eI0 cy 8)] := hD
  refine lv_aload_n hx hb dX3_init_74 rfl (lv_at hl 0 rfl) ?_
  refine k_bipush (n := 8) hx hb dX3_init_75 (by decide) ?_
  refine W.widen (k := 9) (n := 66) (Nat.le_of_ble_eq_true rfl) (Nat.le_of_ble_eq_true rfl) ?_
  refine k_newI hx hb (hts (.arrayClass .int) (by decide +kernel)) hK hP hD hS hA 8 (by decide) rfl (by decide) (Nat.le_of_ble_eq_true rfl) (Nat.le_of_ble_eq_true rfl) dX3_init_77 (fun q10 H hP hD hS => ?_)
  have hP : va_P G vwCl [(h0, .inr (3, [.int 0, .int 0, .int 0, .ref q1, .ref q2, .ref q3, .int 0, .ref q4, .ref q5, .ref q6, .ref q7, .ref q8, .ref q9, .null, .null, .null, .null, .null, .null, .null, .null, .null, .null, .null])), (q1, eI0 cy 12), (q2, eI0 cy 3), (q3, eI0 cy 3), (q4, eI0 cy 8), (q5, eI0 cy 8), (q6, eI0 cy 8), (q7, eI0 cy 8), (q8, eI0 cy 8), (q9, eI0 cy 8), (q10, eI0 cy 8)] H := hP
  have hD : va_D A [(h0, .inr (3, [.int 0, .int 0, .int 0, .ref q1, .ref q2, .ref q3, .int 0, .ref q4, .ref q5, .ref q6, .ref q7, .ref q8, .ref q9, .null, .null, .null, .null, .null, .null, .null, .null, .null, .null, .null])), (q1, eI0 cy 12), (q2, eI0 cy 3), (q3, eI0 cy 3), (q4, eI0 cy 8), (q5, eI0 cy 8), (q6, eI0 cy 8), (q7, eI0 cy 8), (q8, eI0 cy 8), (q9, eI0 cy 8), (q10, eI0 cy 8)] := hD
  refine va_putF (D := G) (ci := 3) (v := .ref q10) (ty := (.array .int)) (C := RX3) (T := TX3) (N := 24) hx hb hts (by decide +kernel) tyX3 tyX3_ok nmX3 hown hK hP hD hS 0 rfl rfl 13 (by decide) (hts (.fieldLink RX3 37 "HarvestLenderModel" "pledgeDebts" "[I") (by decide +kernel)) (fun _ h9 => h9) rfl hin rfl (by decide +kernel) rfl rfl (Nat.le_of_ble_eq_true rfl) dX3_init_79 (fun H locs hP hD hS => ?_)
  have hP : va_P G vwCl [(h0, .inr (3, [.int 0, .int 0, .int 0, .ref q1, .ref q2, .ref q3, .int 0, .ref q4, .ref q5, .ref q6, .ref q7, .ref q8, .ref q9, .ref q10, .null, .null, .null, .null, .null, .null, .null, .null, .null, .null])), (q1, eI0 cy 12), (q2, eI0 cy 3), (q3, eI0 cy 3), (q4, eI0 cy 8), (q5, eI0 cy 8), (q6, eI0 cy 8), (q7, eI0 cy 8), (q8, eI0 cy 8), (q9, eI0 cy 8), (q10, eI0 cy 8)] H := hP
  have hD : va_D A [(h0, .inr (3, [.int 0, .int 0, .int 0, .ref q1, .ref q2, .ref q3, .int 0, .ref q4, .ref q5, .ref q6, .ref q7, .ref q8, .ref q9, .ref q10, .null, .null, .null, .null, .null, .null, .null, .null, .null, .null])), (q1, eI0 cy 12), (q2, eI0 cy 3), (q3, eI0 cy 3), (q4, eI0 cy 8), (q5, eI0 cy 8), (q6, eI0 cy 8), (q7, eI0 cy 8), (q8, eI0 cy 8), (q9, eI0 cy 8), (q10, eI0 cy 8)] := hD
  refine lv_aload_n hx hb dX3_init_82 rfl (lv_at hl 0 rfl) ?_
  refine k_bipush (n := 8) hx hb dX3_init_83 (by decide) ?_
  refine W.widen (k := 10) (n := 74) (Nat.le_of_ble_eq_true rfl) (Nat.le_of_ble_eq_true rfl) ?_
  refine k_newI hx hb (hts (.arrayClass .int) (by decide +kernel)) hK hP hD hS hA 8 (by decide) rfl (by decide) (Nat.le_of_ble_eq_true rfl) (Nat.le_of_ble_eq_true rfl) dX3_init_85 (fun q11 H hP hD hS => ?_)
  have hP : va_P G vwCl [(h0, .inr (3, [.int 0, .int 0, .int 0, .ref q1, .ref q2, .ref q3, .int 0, .ref q4, .ref q5, .ref q6, .ref q7, .ref q8, .ref q9, .ref q10, .null, .null, .null, .null, .null, .null, .null, .null, .null, .null])), (q1, eI0 cy 12), (q2, eI0 cy 3), (q3, eI0 cy 3), (q4, eI0 cy 8), (q5, eI0 cy 8), (q6, eI0 cy 8), (q7, eI0 cy 8), (q8, eI0 cy 8), (q9, eI0 cy 8), (q10, eI0 cy 8), (q11, eI0 cy 8)] H := hP
  have hD : va_D A [(h0, .inr (3, [.int 0, .int 0, .int 0, .ref q1, .ref q2, .ref q3, .int 0, .ref q4, .ref q5, .ref q6, .ref q7, .ref q8, .ref q9, .ref q10, .null, .null, .null, .null, .null, .null, .null, .null, .null, .null])), (q1, eI0 cy 12), (q2, eI0 cy 3), (q3, eI0 cy 3), (q4, eI0 cy 8), (q5, eI0 cy 8), (q6, eI0 cy 8), (q7, eI0 cy 8), (q8, eI0 cy 8), (q9, eI0 cy 8), (q10, eI0 cy 8), (q11, eI0 cy 8)] := hD
  refine va_putF (D := G) (ci := 3) (v := .ref q11) (ty := (.array .int)) (C := RX3) (T := TX3) (N := 24) hx hb hts (by decide +kernel) tyX3 tyX3_ok nmX3 hown hK hP hD hS 0 rfl rfl 14 (by decide) (hts (.fieldLink RX3 40 "HarvestLenderModel" "rows" "[I") (by decide +kernel)) (fun _ h9 => h9) rfl hin rfl (by decide +kernel) rfl rfl (Nat.le_of_ble_eq_true rfl) dX3_init_87 (fun H locs hP hD hS => ?_)
  have hP : va_P G vwCl [(h0, .inr (3, [.int 0, .int 0, .int 0, .ref q1, .ref q2, .ref q3, .int 0, .ref q4, .ref q5, .ref q6, .ref q7, .ref q8, .ref q9, .ref q10, .ref q11, .null, .null, .null, .null, .null, .null, .null, .null, .null])), (q1, eI0 cy 12), (q2, eI0 cy 3), (q3, eI0 cy 3), (q4, eI0 cy 8), (q5, eI0 cy 8), (q6, eI0 cy 8), (q7, eI0 cy 8), (q8, eI0 cy 8), (q9, eI0 cy 8), (q10, eI0 cy 8), (q11, eI0 cy 8)] H := hP
  have hD : va_D A [(h0, .inr (3, [.int 0, .int 0, .int 0, .ref q1, .ref q2, .ref q3, .int 0, .ref q4, .ref q5, .ref q6, .ref q7, .ref q8, .ref q9, .ref q10, .ref q11, .null, .null, .null, .null, .null, .null, .null, .null, .null])), (q1, eI0 cy 12), (q2, eI0 cy 3), (q3, eI0 cy 3), (q4, eI0 cy 8), (q5, eI0 cy 8), (q6, eI0 cy 8), (q7, eI0 cy 8), (q8, eI0 cy 8), (q9, eI0 cy 8), (q10, eI0 cy 8), (q11, eI0 cy 8)] := hD
  refine lv_aload_n hx hb dX3_init_90 rfl (lv_at hl 0 rfl) ?_
  refine k_bipush (n := 24) hx hb dX3_init_91 (by decide) ?_
  refine W.widen (k := 11) (n := 82) (Nat.le_of_ble_eq_true rfl) (Nat.le_of_ble_eq_true rfl) ?_
  refine k_newI hx hb (hts (.arrayClass .int) (by decide +kernel)) hK hP hD hS hA 24 (by decide) rfl (by decide) (Nat.le_of_ble_eq_true rfl) (Nat.le_of_ble_eq_true rfl) dX3_init_93 (fun q12 H hP hD hS => ?_)
  have hP : va_P G vwCl [(h0, .inr (3, [.int 0, .int 0, .int 0, .ref q1, .ref q2, .ref q3, .int 0, .ref q4, .ref q5, .ref q6, .ref q7, .ref q8, .ref q9, .ref q10, .ref q11, .null, .null, .null, .null, .null, .null, .null, .null, .null])), (q1, eI0 cy 12), (q2, eI0 cy 3), (q3, eI0 cy 3), (q4, eI0 cy 8), (q5, eI0 cy 8), (q6, eI0 cy 8), (q7, eI0 cy 8), (q8, eI0 cy 8), (q9, eI0 cy 8), (q10, eI0 cy 8), (q11, eI0 cy 8), (q12, eI0 cy 24)] H := hP
  have hD : va_D A [(h0, .inr (3, [.int 0, .int 0, .int 0, .ref q1, .ref q2, .ref q3, .int 0, .ref q4, .ref q5, .ref q6, .ref q7, .ref q8, .ref q9, .ref q10, .ref q11, .null, .null, .null, .null, .null, .null, .null, .null, .null])), (q1, eI0 cy 12), (q2, eI0 cy 3), (q3, eI0 cy 3), (q4, eI0 cy 8), (q5, eI0 cy 8), (q6, eI0 cy 8), (q7, eI0 cy 8), (q8, eI0 cy 8), (q9, eI0 cy 8), (q10, eI0 cy 8), (q11, eI0 cy 8), (q12, eI0 cy 24)] := hD
  refine va_putF (D := G) (ci := 3) (v := .ref q12) (ty := (.array .int)) (C := RX3) (T := TX3) (N := 24) hx hb hts (by decide +kernel) tyX3 tyX3_ok nmX3 hown hK hP hD hS 0 rfl rfl 15 (by decide) (hts (.fieldLink RX3 43 "HarvestLenderModel" "parts" "[I") (by decide +kernel)) (fun _ h9 => h9) rfl hin rfl (by decide +kernel) rfl rfl (Nat.le_of_ble_eq_true rfl) dX3_init_95 (fun H locs hP hD hS => ?_)
  have hP : va_P G vwCl [(h0, .inr (3, [.int 0, .int 0, .int 0, .ref q1, .ref q2, .ref q3, .int 0, .ref q4, .ref q5, .ref q6, .ref q7, .ref q8, .ref q9, .ref q10, .ref q11, .ref q12, .null, .null, .null, .null, .null, .null, .null, .null])), (q1, eI0 cy 12), (q2, eI0 cy 3), (q3, eI0 cy 3), (q4, eI0 cy 8), (q5, eI0 cy 8), (q6, eI0 cy 8), (q7, eI0 cy 8), (q8, eI0 cy 8), (q9, eI0 cy 8), (q10, eI0 cy 8), (q11, eI0 cy 8), (q12, eI0 cy 24)] H := hP
  have hD : va_D A [(h0, .inr (3, [.int 0, .int 0, .int 0, .ref q1, .ref q2, .ref q3, .int 0, .ref q4, .ref q5, .ref q6, .ref q7, .ref q8, .ref q9, .ref q10, .ref q11, .ref q12, .null, .null, .null, .null, .null, .null, .null, .null])), (q1, eI0 cy 12), (q2, eI0 cy 3), (q3, eI0 cy 3), (q4, eI0 cy 8), (q5, eI0 cy 8), (q6, eI0 cy 8), (q7, eI0 cy 8), (q8, eI0 cy 8), (q9, eI0 cy 8), (q10, eI0 cy 8), (q11, eI0 cy 8), (q12, eI0 cy 24)] := hD
  refine lv_aload_n hx hb dX3_init_98 rfl (lv_at hl 0 rfl) ?_
  refine k_bipush (n := 8) hx hb dX3_init_99 (by decide) ?_
  refine W.widen (k := 12) (n := 106) (Nat.le_of_ble_eq_true rfl) (Nat.le_of_ble_eq_true rfl) ?_
  refine k_newI hx hb (hts (.arrayClass .int) (by decide +kernel)) hK hP hD hS hA 8 (by decide) rfl (by decide) (Nat.le_of_ble_eq_true rfl) (Nat.le_of_ble_eq_true rfl) dX3_init_101 (fun q13 H hP hD hS => ?_)
  have hP : va_P G vwCl [(h0, .inr (3, [.int 0, .int 0, .int 0, .ref q1, .ref q2, .ref q3, .int 0, .ref q4, .ref q5, .ref q6, .ref q7, .ref q8, .ref q9, .ref q10, .ref q11, .ref q12, .null, .null, .null, .null, .null, .null, .null, .null])), (q1, eI0 cy 12), (q2, eI0 cy 3), (q3, eI0 cy 3), (q4, eI0 cy 8), (q5, eI0 cy 8), (q6, eI0 cy 8), (q7, eI0 cy 8), (q8, eI0 cy 8), (q9, eI0 cy 8), (q10, eI0 cy 8), (q11, eI0 cy 8), (q12, eI0 cy 24), (q13, eI0 cy 8)] H := hP
  have hD : va_D A [(h0, .inr (3, [.int 0, .int 0, .int 0, .ref q1, .ref q2, .ref q3, .int 0, .ref q4, .ref q5, .ref q6, .ref q7, .ref q8, .ref q9, .ref q10, .ref q11, .ref q12, .null, .null, .null, .null, .null, .null, .null, .null])), (q1, eI0 cy 12), (q2, eI0 cy 3), (q3, eI0 cy 3), (q4, eI0 cy 8), (q5, eI0 cy 8), (q6, eI0 cy 8), (q7, eI0 cy 8), (q8, eI0 cy 8), (q9, eI0 cy 8), (q10, eI0 cy 8), (q11, eI0 cy 8), (q12, eI0 cy 24), (q13, eI0 cy 8)] := hD
  refine va_putF (D := G) (ci := 3) (v := .ref q13) (ty := (.array .int)) (C := RX3) (T := TX3) (N := 24) hx hb hts (by decide +kernel) tyX3 tyX3_ok nmX3 hown hK hP hD hS 0 rfl rfl 16 (by decide) (hts (.fieldLink RX3 46 "HarvestLenderModel" "crops" "[I") (by decide +kernel)) (fun _ h9 => h9) rfl hin rfl (by decide +kernel) rfl rfl (Nat.le_of_ble_eq_true rfl) dX3_init_103 (fun H locs hP hD hS => ?_)
  have hP : va_P G vwCl [(h0, .inr (3, [.int 0, .int 0, .int 0, .ref q1, .ref q2, .ref q3, .int 0, .ref q4, .ref q5, .ref q6, .ref q7, .ref q8, .ref q9, .ref q10, .ref q11, .ref q12, .ref q13, .null, .null, .null, .null, .null, .null, .null])), (q1, eI0 cy 12), (q2, eI0 cy 3), (q3, eI0 cy 3), (q4, eI0 cy 8), (q5, eI0 cy 8), (q6, eI0 cy 8), (q7, eI0 cy 8), (q8, eI0 cy 8), (q9, eI0 cy 8), (q10, eI0 cy 8), (q11, eI0 cy 8), (q12, eI0 cy 24), (q13, eI0 cy 8)] H := hP
  have hD : va_D A [(h0, .inr (3, [.int 0, .int 0, .int 0, .ref q1, .ref q2, .ref q3, .int 0, .ref q4, .ref q5, .ref q6, .ref q7, .ref q8, .ref q9, .ref q10, .ref q11, .ref q12, .ref q13, .null, .null, .null, .null, .null, .null, .null])), (q1, eI0 cy 12), (q2, eI0 cy 3), (q3, eI0 cy 3), (q4, eI0 cy 8), (q5, eI0 cy 8), (q6, eI0 cy 8), (q7, eI0 cy 8), (q8, eI0 cy 8), (q9, eI0 cy 8), (q10, eI0 cy 8), (q11, eI0 cy 8), (q12, eI0 cy 24), (q13, eI0 cy 8)] := hD
  refine lv_aload_n hx hb dX3_init_106 rfl (lv_at hl 0 rfl) ?_
  refine k_bipush (n := 8) hx hb dX3_init_107 (by decide) ?_
  refine W.widen (k := 13) (n := 114) (Nat.le_of_ble_eq_true rfl) (Nat.le_of_ble_eq_true rfl) ?_
  refine k_newI hx hb (hts (.arrayClass .int) (by decide +kernel)) hK hP hD hS hA 8 (by decide) rfl (by decide) (Nat.le_of_ble_eq_true rfl) (Nat.le_of_ble_eq_true rfl) dX3_init_109 (fun q14 H hP hD hS => ?_)
  have hP : va_P G vwCl [(h0, .inr (3, [.int 0, .int 0, .int 0, .ref q1, .ref q2, .ref q3, .int 0, .ref q4, .ref q5, .ref q6, .ref q7, .ref q8, .ref q9, .ref q10, .ref q11, .ref q12, .ref q13, .null, .null, .null, .null, .null, .null, .null])), (q1, eI0 cy 12), (q2, eI0 cy 3), (q3, eI0 cy 3), (q4, eI0 cy 8), (q5, eI0 cy 8), (q6, eI0 cy 8), (q7, eI0 cy 8), (q8, eI0 cy 8), (q9, eI0 cy 8), (q10, eI0 cy 8), (q11, eI0 cy 8), (q12, eI0 cy 24), (q13, eI0 cy 8), (q14, eI0 cy 8)] H := hP
  have hD : va_D A [(h0, .inr (3, [.int 0, .int 0, .int 0, .ref q1, .ref q2, .ref q3, .int 0, .ref q4, .ref q5, .ref q6, .ref q7, .ref q8, .ref q9, .ref q10, .ref q11, .ref q12, .ref q13, .null, .null, .null, .null, .null, .null, .null])), (q1, eI0 cy 12), (q2, eI0 cy 3), (q3, eI0 cy 3), (q4, eI0 cy 8), (q5, eI0 cy 8), (q6, eI0 cy 8), (q7, eI0 cy 8), (q8, eI0 cy 8), (q9, eI0 cy 8), (q10, eI0 cy 8), (q11, eI0 cy 8), (q12, eI0 cy 24), (q13, eI0 cy 8), (q14, eI0 cy 8)] := hD
  refine va_putF (D := G) (ci := 3) (v := .ref q14) (ty := (.array .int)) (C := RX3) (T := TX3) (N := 24) hx hb hts (by decide +kernel) tyX3 tyX3_ok nmX3 hown hK hP hD hS 0 rfl rfl 17 (by decide) (hts (.fieldLink RX3 49 "HarvestLenderModel" "hectares" "[I") (by decide +kernel)) (fun _ h9 => h9) rfl hin rfl (by decide +kernel) rfl rfl (Nat.le_of_ble_eq_true rfl) dX3_init_111 (fun H locs hP hD hS => ?_)
  have hP : va_P G vwCl [(h0, .inr (3, [.int 0, .int 0, .int 0, .ref q1, .ref q2, .ref q3, .int 0, .ref q4, .ref q5, .ref q6, .ref q7, .ref q8, .ref q9, .ref q10, .ref q11, .ref q12, .ref q13, .ref q14, .null, .null, .null, .null, .null, .null])), (q1, eI0 cy 12), (q2, eI0 cy 3), (q3, eI0 cy 3), (q4, eI0 cy 8), (q5, eI0 cy 8), (q6, eI0 cy 8), (q7, eI0 cy 8), (q8, eI0 cy 8), (q9, eI0 cy 8), (q10, eI0 cy 8), (q11, eI0 cy 8), (q12, eI0 cy 24), (q13, eI0 cy 8), (q14, eI0 cy 8)] H := hP
  have hD : va_D A [(h0, .inr (3, [.int 0, .int 0, .int 0, .ref q1, .ref q2, .ref q3, .int 0, .ref q4, .ref q5, .ref q6, .ref q7, .ref q8, .ref q9, .ref q10, .ref q11, .ref q12, .ref q13, .ref q14, .null, .null, .null, .null, .null, .null])), (q1, eI0 cy 12), (q2, eI0 cy 3), (q3, eI0 cy 3), (q4, eI0 cy 8), (q5, eI0 cy 8), (q6, eI0 cy 8), (q7, eI0 cy 8), (q8, eI0 cy 8), (q9, eI0 cy 8), (q10, eI0 cy 8), (q11, eI0 cy 8), (q12, eI0 cy 24), (q13, eI0 cy 8), (q14, eI0 cy 8)] := hD
  refine lv_aload_n hx hb dX3_init_114 rfl (lv_at hl 0 rfl) ?_
  refine k_bipush (n := 8) hx hb dX3_init_115 (by decide) ?_
  refine W.widen (k := 14) (n := 122) (Nat.le_of_ble_eq_true rfl) (Nat.le_of_ble_eq_true rfl) ?_
  refine k_newI hx hb (hts (.arrayClass .int) (by decide +kernel)) hK hP hD hS hA 8 (by decide) rfl (by decide) (Nat.le_of_ble_eq_true rfl) (Nat.le_of_ble_eq_true rfl) dX3_init_117 (fun q15 H hP hD hS => ?_)
  have hP : va_P G vwCl [(h0, .inr (3, [.int 0, .int 0, .int 0, .ref q1, .ref q2, .ref q3, .int 0, .ref q4, .ref q5, .ref q6, .ref q7, .ref q8, .ref q9, .ref q10, .ref q11, .ref q12, .ref q13, .ref q14, .null, .null, .null, .null, .null, .null])), (q1, eI0 cy 12), (q2, eI0 cy 3), (q3, eI0 cy 3), (q4, eI0 cy 8), (q5, eI0 cy 8), (q6, eI0 cy 8), (q7, eI0 cy 8), (q8, eI0 cy 8), (q9, eI0 cy 8), (q10, eI0 cy 8), (q11, eI0 cy 8), (q12, eI0 cy 24), (q13, eI0 cy 8), (q14, eI0 cy 8), (q15, eI0 cy 8)] H := hP
  have hD : va_D A [(h0, .inr (3, [.int 0, .int 0, .int 0, .ref q1, .ref q2, .ref q3, .int 0, .ref q4, .ref q5, .ref q6, .ref q7, .ref q8, .ref q9, .ref q10, .ref q11, .ref q12, .ref q13, .ref q14, .null, .null, .null, .null, .null, .null])), (q1, eI0 cy 12), (q2, eI0 cy 3), (q3, eI0 cy 3), (q4, eI0 cy 8), (q5, eI0 cy 8), (q6, eI0 cy 8), (q7, eI0 cy 8), (q8, eI0 cy 8), (q9, eI0 cy 8), (q10, eI0 cy 8), (q11, eI0 cy 8), (q12, eI0 cy 24), (q13, eI0 cy 8), (q14, eI0 cy 8), (q15, eI0 cy 8)] := hD
  refine va_putF (D := G) (ci := 3) (v := .ref q15) (ty := (.array .int)) (C := RX3) (T := TX3) (N := 24) hx hb hts (by decide +kernel) tyX3 tyX3_ok nmX3 hown hK hP hD hS 0 rfl rfl 18 (by decide) (hts (.fieldLink RX3 52 "HarvestLenderModel" "drawn" "[I") (by decide +kernel)) (fun _ h9 => h9) rfl hin rfl (by decide +kernel) rfl rfl (Nat.le_of_ble_eq_true rfl) dX3_init_119 (fun H locs hP hD hS => ?_)
  have hP : va_P G vwCl [(h0, .inr (3, [.int 0, .int 0, .int 0, .ref q1, .ref q2, .ref q3, .int 0, .ref q4, .ref q5, .ref q6, .ref q7, .ref q8, .ref q9, .ref q10, .ref q11, .ref q12, .ref q13, .ref q14, .ref q15, .null, .null, .null, .null, .null])), (q1, eI0 cy 12), (q2, eI0 cy 3), (q3, eI0 cy 3), (q4, eI0 cy 8), (q5, eI0 cy 8), (q6, eI0 cy 8), (q7, eI0 cy 8), (q8, eI0 cy 8), (q9, eI0 cy 8), (q10, eI0 cy 8), (q11, eI0 cy 8), (q12, eI0 cy 24), (q13, eI0 cy 8), (q14, eI0 cy 8), (q15, eI0 cy 8)] H := hP
  have hD : va_D A [(h0, .inr (3, [.int 0, .int 0, .int 0, .ref q1, .ref q2, .ref q3, .int 0, .ref q4, .ref q5, .ref q6, .ref q7, .ref q8, .ref q9, .ref q10, .ref q11, .ref q12, .ref q13, .ref q14, .ref q15, .null, .null, .null, .null, .null])), (q1, eI0 cy 12), (q2, eI0 cy 3), (q3, eI0 cy 3), (q4, eI0 cy 8), (q5, eI0 cy 8), (q6, eI0 cy 8), (q7, eI0 cy 8), (q8, eI0 cy 8), (q9, eI0 cy 8), (q10, eI0 cy 8), (q11, eI0 cy 8), (q12, eI0 cy 24), (q13, eI0 cy 8), (q14, eI0 cy 8), (q15, eI0 cy 8)] := hD
  refine lv_aload_n hx hb dX3_init_122 rfl (lv_at hl 0 rfl) ?_
  refine k_bipush (n := 8) hx hb dX3_init_123 (by decide) ?_
  refine W.widen (k := 15) (n := 130) (Nat.le_of_ble_eq_true rfl) (Nat.le_of_ble_eq_true rfl) ?_
  refine k_newI hx hb (hts (.arrayClass .int) (by decide +kernel)) hK hP hD hS hA 8 (by decide) rfl (by decide) (Nat.le_of_ble_eq_true rfl) (Nat.le_of_ble_eq_true rfl) dX3_init_125 (fun q16 H hP hD hS => ?_)
  have hP : va_P G vwCl [(h0, .inr (3, [.int 0, .int 0, .int 0, .ref q1, .ref q2, .ref q3, .int 0, .ref q4, .ref q5, .ref q6, .ref q7, .ref q8, .ref q9, .ref q10, .ref q11, .ref q12, .ref q13, .ref q14, .ref q15, .null, .null, .null, .null, .null])), (q1, eI0 cy 12), (q2, eI0 cy 3), (q3, eI0 cy 3), (q4, eI0 cy 8), (q5, eI0 cy 8), (q6, eI0 cy 8), (q7, eI0 cy 8), (q8, eI0 cy 8), (q9, eI0 cy 8), (q10, eI0 cy 8), (q11, eI0 cy 8), (q12, eI0 cy 24), (q13, eI0 cy 8), (q14, eI0 cy 8), (q15, eI0 cy 8), (q16, eI0 cy 8)] H := hP
  have hD : va_D A [(h0, .inr (3, [.int 0, .int 0, .int 0, .ref q1, .ref q2, .ref q3, .int 0, .ref q4, .ref q5, .ref q6, .ref q7, .ref q8, .ref q9, .ref q10, .ref q11, .ref q12, .ref q13, .ref q14, .ref q15, .null, .null, .null, .null, .null])), (q1, eI0 cy 12), (q2, eI0 cy 3), (q3, eI0 cy 3), (q4, eI0 cy 8), (q5, eI0 cy 8), (q6, eI0 cy 8), (q7, eI0 cy 8), (q8, eI0 cy 8), (q9, eI0 cy 8), (q10, eI0 cy 8), (q11, eI0 cy 8), (q12, eI0 cy 24), (q13, eI0 cy 8), (q14, eI0 cy 8), (q15, eI0 cy 8), (q16, eI0 cy 8)] := hD
  refine va_putF (D := G) (ci := 3) (v := .ref q16) (ty := (.array .int)) (C := RX3) (T := TX3) (N := 24) hx hb hts (by decide +kernel) tyX3 tyX3_ok nmX3 hown hK hP hD hS 0 rfl rfl 19 (by decide) (hts (.fieldLink RX3 55 "HarvestLenderModel" "covers" "[I") (by decide +kernel)) (fun _ h9 => h9) rfl hin rfl (by decide +kernel) rfl rfl (Nat.le_of_ble_eq_true rfl) dX3_init_127 (fun H locs hP hD hS => ?_)
  have hP : va_P G vwCl [(h0, .inr (3, [.int 0, .int 0, .int 0, .ref q1, .ref q2, .ref q3, .int 0, .ref q4, .ref q5, .ref q6, .ref q7, .ref q8, .ref q9, .ref q10, .ref q11, .ref q12, .ref q13, .ref q14, .ref q15, .ref q16, .null, .null, .null, .null])), (q1, eI0 cy 12), (q2, eI0 cy 3), (q3, eI0 cy 3), (q4, eI0 cy 8), (q5, eI0 cy 8), (q6, eI0 cy 8), (q7, eI0 cy 8), (q8, eI0 cy 8), (q9, eI0 cy 8), (q10, eI0 cy 8), (q11, eI0 cy 8), (q12, eI0 cy 24), (q13, eI0 cy 8), (q14, eI0 cy 8), (q15, eI0 cy 8), (q16, eI0 cy 8)] H := hP
  have hD : va_D A [(h0, .inr (3, [.int 0, .int 0, .int 0, .ref q1, .ref q2, .ref q3, .int 0, .ref q4, .ref q5, .ref q6, .ref q7, .ref q8, .ref q9, .ref q10, .ref q11, .ref q12, .ref q13, .ref q14, .ref q15, .ref q16, .null, .null, .null, .null])), (q1, eI0 cy 12), (q2, eI0 cy 3), (q3, eI0 cy 3), (q4, eI0 cy 8), (q5, eI0 cy 8), (q6, eI0 cy 8), (q7, eI0 cy 8), (q8, eI0 cy 8), (q9, eI0 cy 8), (q10, eI0 cy 8), (q11, eI0 cy 8), (q12, eI0 cy 24), (q13, eI0 cy 8), (q14, eI0 cy 8), (q15, eI0 cy 8), (q16, eI0 cy 8)] := hD
  refine lv_aload_n hx hb dX3_init_130 rfl (lv_at hl 0 rfl) ?_
  refine k_bipush (n := 8) hx hb dX3_init_131 (by decide) ?_
  refine W.widen (k := 16) (n := 138) (Nat.le_of_ble_eq_true rfl) (Nat.le_of_ble_eq_true rfl) ?_
  refine k_newI hx hb (hts (.arrayClass .int) (by decide +kernel)) hK hP hD hS hA 8 (by decide) rfl (by decide) (Nat.le_of_ble_eq_true rfl) (Nat.le_of_ble_eq_true rfl) dX3_init_133 (fun q17 H hP hD hS => ?_)
  have hP : va_P G vwCl [(h0, .inr (3, [.int 0, .int 0, .int 0, .ref q1, .ref q2, .ref q3, .int 0, .ref q4, .ref q5, .ref q6, .ref q7, .ref q8, .ref q9, .ref q10, .ref q11, .ref q12, .ref q13, .ref q14, .ref q15, .ref q16, .null, .null, .null, .null])), (q1, eI0 cy 12), (q2, eI0 cy 3), (q3, eI0 cy 3), (q4, eI0 cy 8), (q5, eI0 cy 8), (q6, eI0 cy 8), (q7, eI0 cy 8), (q8, eI0 cy 8), (q9, eI0 cy 8), (q10, eI0 cy 8), (q11, eI0 cy 8), (q12, eI0 cy 24), (q13, eI0 cy 8), (q14, eI0 cy 8), (q15, eI0 cy 8), (q16, eI0 cy 8), (q17, eI0 cy 8)] H := hP
  have hD : va_D A [(h0, .inr (3, [.int 0, .int 0, .int 0, .ref q1, .ref q2, .ref q3, .int 0, .ref q4, .ref q5, .ref q6, .ref q7, .ref q8, .ref q9, .ref q10, .ref q11, .ref q12, .ref q13, .ref q14, .ref q15, .ref q16, .null, .null, .null, .null])), (q1, eI0 cy 12), (q2, eI0 cy 3), (q3, eI0 cy 3), (q4, eI0 cy 8), (q5, eI0 cy 8), (q6, eI0 cy 8), (q7, eI0 cy 8), (q8, eI0 cy 8), (q9, eI0 cy 8), (q10, eI0 cy 8), (q11, eI0 cy 8), (q12, eI0 cy 24), (q13, eI0 cy 8), (q14, eI0 cy 8), (q15, eI0 cy 8), (q16, eI0 cy 8), (q17, eI0 cy 8)] := hD
  refine va_putF (D := G) (ci := 3) (v := .ref q17) (ty := (.array .int)) (C := RX3) (T := TX3) (N := 24) hx hb hts (by decide +kernel) tyX3 tyX3_ok nmX3 hown hK hP hD hS 0 rfl rfl 20 (by decide) (hts (.fieldLink RX3 58 "HarvestLenderModel" "yields" "[I") (by decide +kernel)) (fun _ h9 => h9) rfl hin rfl (by decide +kernel) rfl rfl (Nat.le_of_ble_eq_true rfl) dX3_init_135 (fun H locs hP hD hS => ?_)
  have hP : va_P G vwCl [(h0, .inr (3, [.int 0, .int 0, .int 0, .ref q1, .ref q2, .ref q3, .int 0, .ref q4, .ref q5, .ref q6, .ref q7, .ref q8, .ref q9, .ref q10, .ref q11, .ref q12, .ref q13, .ref q14, .ref q15, .ref q16, .ref q17, .null, .null, .null])), (q1, eI0 cy 12), (q2, eI0 cy 3), (q3, eI0 cy 3), (q4, eI0 cy 8), (q5, eI0 cy 8), (q6, eI0 cy 8), (q7, eI0 cy 8), (q8, eI0 cy 8), (q9, eI0 cy 8), (q10, eI0 cy 8), (q11, eI0 cy 8), (q12, eI0 cy 24), (q13, eI0 cy 8), (q14, eI0 cy 8), (q15, eI0 cy 8), (q16, eI0 cy 8), (q17, eI0 cy 8)] H := hP
  have hD : va_D A [(h0, .inr (3, [.int 0, .int 0, .int 0, .ref q1, .ref q2, .ref q3, .int 0, .ref q4, .ref q5, .ref q6, .ref q7, .ref q8, .ref q9, .ref q10, .ref q11, .ref q12, .ref q13, .ref q14, .ref q15, .ref q16, .ref q17, .null, .null, .null])), (q1, eI0 cy 12), (q2, eI0 cy 3), (q3, eI0 cy 3), (q4, eI0 cy 8), (q5, eI0 cy 8), (q6, eI0 cy 8), (q7, eI0 cy 8), (q8, eI0 cy 8), (q9, eI0 cy 8), (q10, eI0 cy 8), (q11, eI0 cy 8), (q12, eI0 cy 24), (q13, eI0 cy 8), (q14, eI0 cy 8), (q15, eI0 cy 8), (q16, eI0 cy 8), (q17, eI0 cy 8)] := hD
  refine lv_aload_n hx hb dX3_init_138 rfl (lv_at hl 0 rfl) ?_
  refine k_bipush (n := 8) hx hb dX3_init_139 (by decide) ?_
  refine W.widen (k := 17) (n := 146) (Nat.le_of_ble_eq_true rfl) (Nat.le_of_ble_eq_true rfl) ?_
  refine k_newI hx hb (hts (.arrayClass .int) (by decide +kernel)) hK hP hD hS hA 8 (by decide) rfl (by decide) (Nat.le_of_ble_eq_true rfl) (Nat.le_of_ble_eq_true rfl) dX3_init_141 (fun q18 H hP hD hS => ?_)
  have hP : va_P G vwCl [(h0, .inr (3, [.int 0, .int 0, .int 0, .ref q1, .ref q2, .ref q3, .int 0, .ref q4, .ref q5, .ref q6, .ref q7, .ref q8, .ref q9, .ref q10, .ref q11, .ref q12, .ref q13, .ref q14, .ref q15, .ref q16, .ref q17, .null, .null, .null])), (q1, eI0 cy 12), (q2, eI0 cy 3), (q3, eI0 cy 3), (q4, eI0 cy 8), (q5, eI0 cy 8), (q6, eI0 cy 8), (q7, eI0 cy 8), (q8, eI0 cy 8), (q9, eI0 cy 8), (q10, eI0 cy 8), (q11, eI0 cy 8), (q12, eI0 cy 24), (q13, eI0 cy 8), (q14, eI0 cy 8), (q15, eI0 cy 8), (q16, eI0 cy 8), (q17, eI0 cy 8), (q18, eI0 cy 8)] H := hP
  have hD : va_D A [(h0, .inr (3, [.int 0, .int 0, .int 0, .ref q1, .ref q2, .ref q3, .int 0, .ref q4, .ref q5, .ref q6, .ref q7, .ref q8, .ref q9, .ref q10, .ref q11, .ref q12, .ref q13, .ref q14, .ref q15, .ref q16, .ref q17, .null, .null, .null])), (q1, eI0 cy 12), (q2, eI0 cy 3), (q3, eI0 cy 3), (q4, eI0 cy 8), (q5, eI0 cy 8), (q6, eI0 cy 8), (q7, eI0 cy 8), (q8, eI0 cy 8), (q9, eI0 cy 8), (q10, eI0 cy 8), (q11, eI0 cy 8), (q12, eI0 cy 24), (q13, eI0 cy 8), (q14, eI0 cy 8), (q15, eI0 cy 8), (q16, eI0 cy 8), (q17, eI0 cy 8), (q18, eI0 cy 8)] := hD
  refine va_putF (D := G) (ci := 3) (v := .ref q18) (ty := (.array .int)) (C := RX3) (T := TX3) (N := 24) hx hb hts (by decide +kernel) tyX3 tyX3_ok nmX3 hown hK hP hD hS 0 rfl rfl 21 (by decide) (hts (.fieldLink RX3 61 "HarvestLenderModel" "calls" "[I") (by decide +kernel)) (fun _ h9 => h9) rfl hin rfl (by decide +kernel) rfl rfl (Nat.le_of_ble_eq_true rfl) dX3_init_143 (fun H locs hP hD hS => ?_)
  have hP : va_P G vwCl [(h0, .inr (3, [.int 0, .int 0, .int 0, .ref q1, .ref q2, .ref q3, .int 0, .ref q4, .ref q5, .ref q6, .ref q7, .ref q8, .ref q9, .ref q10, .ref q11, .ref q12, .ref q13, .ref q14, .ref q15, .ref q16, .ref q17, .ref q18, .null, .null])), (q1, eI0 cy 12), (q2, eI0 cy 3), (q3, eI0 cy 3), (q4, eI0 cy 8), (q5, eI0 cy 8), (q6, eI0 cy 8), (q7, eI0 cy 8), (q8, eI0 cy 8), (q9, eI0 cy 8), (q10, eI0 cy 8), (q11, eI0 cy 8), (q12, eI0 cy 24), (q13, eI0 cy 8), (q14, eI0 cy 8), (q15, eI0 cy 8), (q16, eI0 cy 8), (q17, eI0 cy 8), (q18, eI0 cy 8)] H := hP
  have hD : va_D A [(h0, .inr (3, [.int 0, .int 0, .int 0, .ref q1, .ref q2, .ref q3, .int 0, .ref q4, .ref q5, .ref q6, .ref q7, .ref q8, .ref q9, .ref q10, .ref q11, .ref q12, .ref q13, .ref q14, .ref q15, .ref q16, .ref q17, .ref q18, .null, .null])), (q1, eI0 cy 12), (q2, eI0 cy 3), (q3, eI0 cy 3), (q4, eI0 cy 8), (q5, eI0 cy 8), (q6, eI0 cy 8), (q7, eI0 cy 8), (q8, eI0 cy 8), (q9, eI0 cy 8), (q10, eI0 cy 8), (q11, eI0 cy 8), (q12, eI0 cy 24), (q13, eI0 cy 8), (q14, eI0 cy 8), (q15, eI0 cy 8), (q16, eI0 cy 8), (q17, eI0 cy 8), (q18, eI0 cy 8)] := hD
  refine lv_aload_n hx hb dX3_init_146 rfl (lv_at hl 0 rfl) ?_
  refine k_bipush (n := 40) hx hb dX3_init_147 (by decide) ?_
  refine W.widen (k := 18) (n := 154) (Nat.le_of_ble_eq_true rfl) (Nat.le_of_ble_eq_true rfl) ?_
  refine k_newI hx hb (hts (.arrayClass .int) (by decide +kernel)) hK hP hD hS hA 40 (by decide) rfl (by decide) (Nat.le_of_ble_eq_true rfl) (Nat.le_of_ble_eq_true rfl) dX3_init_149 (fun q19 H hP hD hS => ?_)
  have hP : va_P G vwCl [(h0, .inr (3, [.int 0, .int 0, .int 0, .ref q1, .ref q2, .ref q3, .int 0, .ref q4, .ref q5, .ref q6, .ref q7, .ref q8, .ref q9, .ref q10, .ref q11, .ref q12, .ref q13, .ref q14, .ref q15, .ref q16, .ref q17, .ref q18, .null, .null])), (q1, eI0 cy 12), (q2, eI0 cy 3), (q3, eI0 cy 3), (q4, eI0 cy 8), (q5, eI0 cy 8), (q6, eI0 cy 8), (q7, eI0 cy 8), (q8, eI0 cy 8), (q9, eI0 cy 8), (q10, eI0 cy 8), (q11, eI0 cy 8), (q12, eI0 cy 24), (q13, eI0 cy 8), (q14, eI0 cy 8), (q15, eI0 cy 8), (q16, eI0 cy 8), (q17, eI0 cy 8), (q18, eI0 cy 8), (q19, eI0 cy 40)] H := hP
  have hD : va_D A [(h0, .inr (3, [.int 0, .int 0, .int 0, .ref q1, .ref q2, .ref q3, .int 0, .ref q4, .ref q5, .ref q6, .ref q7, .ref q8, .ref q9, .ref q10, .ref q11, .ref q12, .ref q13, .ref q14, .ref q15, .ref q16, .ref q17, .ref q18, .null, .null])), (q1, eI0 cy 12), (q2, eI0 cy 3), (q3, eI0 cy 3), (q4, eI0 cy 8), (q5, eI0 cy 8), (q6, eI0 cy 8), (q7, eI0 cy 8), (q8, eI0 cy 8), (q9, eI0 cy 8), (q10, eI0 cy 8), (q11, eI0 cy 8), (q12, eI0 cy 24), (q13, eI0 cy 8), (q14, eI0 cy 8), (q15, eI0 cy 8), (q16, eI0 cy 8), (q17, eI0 cy 8), (q18, eI0 cy 8), (q19, eI0 cy 40)] := hD
  refine va_putF (D := G) (ci := 3) (v := .ref q19) (ty := (.array .int)) (C := RX3) (T := TX3) (N := 24) hx hb hts (by decide +kernel) tyX3 tyX3_ok nmX3 hown hK hP hD hS 0 rfl rfl 22 (by decide) (hts (.fieldLink RX3 64 "HarvestLenderModel" "repaidOf" "[I") (by decide +kernel)) (fun _ h9 => h9) rfl hin rfl (by decide +kernel) rfl rfl (Nat.le_of_ble_eq_true rfl) dX3_init_151 (fun H locs hP hD hS => ?_)
  have hP : va_P G vwCl [(h0, .inr (3, [.int 0, .int 0, .int 0, .ref q1, .ref q2, .ref q3, .int 0, .ref q4, .ref q5, .ref q6, .ref q7, .ref q8, .ref q9, .ref q10, .ref q11, .ref q12, .ref q13, .ref q14, .ref q15, .ref q16, .ref q17, .ref q18, .ref q19, .null])), (q1, eI0 cy 12), (q2, eI0 cy 3), (q3, eI0 cy 3), (q4, eI0 cy 8), (q5, eI0 cy 8), (q6, eI0 cy 8), (q7, eI0 cy 8), (q8, eI0 cy 8), (q9, eI0 cy 8), (q10, eI0 cy 8), (q11, eI0 cy 8), (q12, eI0 cy 24), (q13, eI0 cy 8), (q14, eI0 cy 8), (q15, eI0 cy 8), (q16, eI0 cy 8), (q17, eI0 cy 8), (q18, eI0 cy 8), (q19, eI0 cy 40)] H := hP
  have hD : va_D A [(h0, .inr (3, [.int 0, .int 0, .int 0, .ref q1, .ref q2, .ref q3, .int 0, .ref q4, .ref q5, .ref q6, .ref q7, .ref q8, .ref q9, .ref q10, .ref q11, .ref q12, .ref q13, .ref q14, .ref q15, .ref q16, .ref q17, .ref q18, .ref q19, .null])), (q1, eI0 cy 12), (q2, eI0 cy 3), (q3, eI0 cy 3), (q4, eI0 cy 8), (q5, eI0 cy 8), (q6, eI0 cy 8), (q7, eI0 cy 8), (q8, eI0 cy 8), (q9, eI0 cy 8), (q10, eI0 cy 8), (q11, eI0 cy 8), (q12, eI0 cy 24), (q13, eI0 cy 8), (q14, eI0 cy 8), (q15, eI0 cy 8), (q16, eI0 cy 8), (q17, eI0 cy 8), (q18, eI0 cy 8), (q19, eI0 cy 40)] := hD
  refine lv_aload_n hx hb dX3_init_154 rfl (lv_at hl 0 rfl) ?_
  refine k_bipush (n := 8) hx hb dX3_init_155 (by decide) ?_
  refine W.widen (k := 19) (n := 194) (Nat.le_of_ble_eq_true rfl) (Nat.le_of_ble_eq_true rfl) ?_
  refine k_newI hx hb (hts (.arrayClass .int) (by decide +kernel)) hK hP hD hS hA 8 (by decide) rfl (by decide) (Nat.le_of_ble_eq_true rfl) (Nat.le_of_ble_eq_true rfl) dX3_init_157 (fun q20 H hP hD hS => ?_)
  have hP : va_P G vwCl [(h0, .inr (3, [.int 0, .int 0, .int 0, .ref q1, .ref q2, .ref q3, .int 0, .ref q4, .ref q5, .ref q6, .ref q7, .ref q8, .ref q9, .ref q10, .ref q11, .ref q12, .ref q13, .ref q14, .ref q15, .ref q16, .ref q17, .ref q18, .ref q19, .null])), (q1, eI0 cy 12), (q2, eI0 cy 3), (q3, eI0 cy 3), (q4, eI0 cy 8), (q5, eI0 cy 8), (q6, eI0 cy 8), (q7, eI0 cy 8), (q8, eI0 cy 8), (q9, eI0 cy 8), (q10, eI0 cy 8), (q11, eI0 cy 8), (q12, eI0 cy 24), (q13, eI0 cy 8), (q14, eI0 cy 8), (q15, eI0 cy 8), (q16, eI0 cy 8), (q17, eI0 cy 8), (q18, eI0 cy 8), (q19, eI0 cy 40), (q20, eI0 cy 8)] H := hP
  have hD : va_D A [(h0, .inr (3, [.int 0, .int 0, .int 0, .ref q1, .ref q2, .ref q3, .int 0, .ref q4, .ref q5, .ref q6, .ref q7, .ref q8, .ref q9, .ref q10, .ref q11, .ref q12, .ref q13, .ref q14, .ref q15, .ref q16, .ref q17, .ref q18, .ref q19, .null])), (q1, eI0 cy 12), (q2, eI0 cy 3), (q3, eI0 cy 3), (q4, eI0 cy 8), (q5, eI0 cy 8), (q6, eI0 cy 8), (q7, eI0 cy 8), (q8, eI0 cy 8), (q9, eI0 cy 8), (q10, eI0 cy 8), (q11, eI0 cy 8), (q12, eI0 cy 24), (q13, eI0 cy 8), (q14, eI0 cy 8), (q15, eI0 cy 8), (q16, eI0 cy 8), (q17, eI0 cy 8), (q18, eI0 cy 8), (q19, eI0 cy 40), (q20, eI0 cy 8)] := hD
  refine va_putF (D := G) (ci := 3) (v := .ref q20) (ty := (.array .int)) (C := RX3) (T := TX3) (N := 24) hx hb hts (by decide +kernel) tyX3 tyX3_ok nmX3 hown hK hP hD hS 0 rfl rfl 23 (by decide) (hts (.fieldLink RX3 67 "HarvestLenderModel" "charges" "[I") (by decide +kernel)) (fun _ h9 => h9) rfl hin rfl (by decide +kernel) rfl rfl (Nat.le_of_ble_eq_true rfl) dX3_init_159 (fun H locs hP hD hS => ?_)
  have hP : va_P G vwCl [(h0, .inr (3, [.int 0, .int 0, .int 0, .ref q1, .ref q2, .ref q3, .int 0, .ref q4, .ref q5, .ref q6, .ref q7, .ref q8, .ref q9, .ref q10, .ref q11, .ref q12, .ref q13, .ref q14, .ref q15, .ref q16, .ref q17, .ref q18, .ref q19, .ref q20])), (q1, eI0 cy 12), (q2, eI0 cy 3), (q3, eI0 cy 3), (q4, eI0 cy 8), (q5, eI0 cy 8), (q6, eI0 cy 8), (q7, eI0 cy 8), (q8, eI0 cy 8), (q9, eI0 cy 8), (q10, eI0 cy 8), (q11, eI0 cy 8), (q12, eI0 cy 24), (q13, eI0 cy 8), (q14, eI0 cy 8), (q15, eI0 cy 8), (q16, eI0 cy 8), (q17, eI0 cy 8), (q18, eI0 cy 8), (q19, eI0 cy 40), (q20, eI0 cy 8)] H := hP
  have hD : va_D A [(h0, .inr (3, [.int 0, .int 0, .int 0, .ref q1, .ref q2, .ref q3, .int 0, .ref q4, .ref q5, .ref q6, .ref q7, .ref q8, .ref q9, .ref q10, .ref q11, .ref q12, .ref q13, .ref q14, .ref q15, .ref q16, .ref q17, .ref q18, .ref q19, .ref q20])), (q1, eI0 cy 12), (q2, eI0 cy 3), (q3, eI0 cy 3), (q4, eI0 cy 8), (q5, eI0 cy 8), (q6, eI0 cy 8), (q7, eI0 cy 8), (q8, eI0 cy 8), (q9, eI0 cy 8), (q10, eI0 cy 8), (q11, eI0 cy 8), (q12, eI0 cy 24), (q13, eI0 cy 8), (q14, eI0 cy 8), (q15, eI0 cy 8), (q16, eI0 cy 8), (q17, eI0 cy 8), (q18, eI0 cy 8), (q19, eI0 cy 40), (q20, eI0 cy 8)] := hD
  refine W.widen (k := 20) (n := 202) (Nat.le_of_ble_eq_true rfl) (Nat.le_of_ble_eq_true rfl) ?_
  have hAD := adOf_D hD
  generalize hadE : adOf [(h0, .inr (3, [.int 0, .int 0, .int 0, .ref q1, .ref q2, .ref q3, .int 0, .ref q4, .ref q5, .ref q6, .ref q7, .ref q8, .ref q9, .ref q10, .ref q11, .ref q12, .ref q13, .ref q14, .ref q15, .ref q16, .ref q17, .ref q18, .ref q19, .ref q20])), (q1, eI0 cy 12), (q2, eI0 cy 3), (q3, eI0 cy 3), (q4, eI0 cy 8), (q5, eI0 cy 8), (q6, eI0 cy 8), (q7, eI0 cy 8), (q8, eI0 cy 8), (q9, eI0 cy 8), (q10, eI0 cy 8), (q11, eI0 cy 8), (q12, eI0 cy 24), (q13, eI0 cy 8), (q14, eI0 cy 8), (q15, eI0 cy 8), (q16, eI0 cy 8), (q17, eI0 cy 8), (q18, eI0 cy 8), (q19, eI0 cy 40), (q20, eI0 cy 8)] = ad at hAD
  have z0 : ad 0 = h0 := by rw [← hadE]; rfl
  have z1 : ad 1 = q1 := by rw [← hadE]; rfl
  have z2 : ad 2 = q2 := by rw [← hadE]; rfl
  have z3 : ad 3 = q3 := by rw [← hadE]; rfl
  have z4 : ad 4 = q4 := by rw [← hadE]; rfl
  have z5 : ad 5 = q5 := by rw [← hadE]; rfl
  have z6 : ad 6 = q6 := by rw [← hadE]; rfl
  have z7 : ad 7 = q7 := by rw [← hadE]; rfl
  have z8 : ad 8 = q8 := by rw [← hadE]; rfl
  have z9 : ad 9 = q9 := by rw [← hadE]; rfl
  have z10 : ad 10 = q10 := by rw [← hadE]; rfl
  have z11 : ad 11 = q11 := by rw [← hadE]; rfl
  have z12 : ad 12 = q12 := by rw [← hadE]; rfl
  have z13 : ad 13 = q13 := by rw [← hadE]; rfl
  have z14 : ad 14 = q14 := by rw [← hadE]; rfl
  have z15 : ad 15 = q15 := by rw [← hadE]; rfl
  have z16 : ad 16 = q16 := by rw [← hadE]; rfl
  have z17 : ad 17 = q17 := by rw [← hadE]; rfl
  have z18 : ad 18 = q18 := by rw [← hadE]; rfl
  have z19 : ad 19 = q19 := by rw [← hadE]; rfl
  have z20 : ad 20 = q20 := by rw [← hadE]; rfl
  have hI : mI ad := fun i j hi hj h => hAD.1 i j hi hj h
  have hAc : ∀ j, j < 21 → A (ad j) := hAD.2
  have hP : va_P G vwCl (mW ad cy (mS1 0)) H := fun k q hq => by
    rw [mS1_0] at hq
    obtain ⟨hk, rfl⟩ := mW_some hq
    rcases (by omega : k = 0 ∨ k = 1 ∨ k = 2 ∨ k = 3 ∨ k = 4 ∨ k = 5 ∨ k = 6 ∨ k = 7 ∨ k = 8 ∨ k = 9 ∨ k = 10 ∨ k = 11 ∨ k = 12 ∨ k = 13 ∨ k = 14 ∨ k = 15 ∨ k = 16 ∨ k = 17 ∨ k = 18 ∨ k = 19 ∨ k = 20) with rfl | rfl | rfl | rfl | rfl | rfl | rfl | rfl | rfl | rfl | rfl | rfl | rfl | rfl | rfl | rfl | rfl | rfl | rfl | rfl | rfl
    · have h9 := hP 0 _ rfl
      rw [← z0, ← z1, ← z2, ← z3, ← z4, ← z5, ← z6, ← z7, ← z8, ← z9, ← z10, ← z11, ← z12, ← z13, ← z14, ← z15, ← z16, ← z17, ← z18, ← z19, ← z20] at h9
      exact h9
    · have h9 := hP 1 _ rfl
      rw [← z1] at h9
      exact h9
    · have h9 := hP 2 _ rfl
      rw [← z2] at h9
      exact h9
    · have h9 := hP 3 _ rfl
      rw [← z3] at h9
      exact h9
    · have h9 := hP 4 _ rfl
      rw [← z4] at h9
      exact h9
    · have h9 := hP 5 _ rfl
      rw [← z5] at h9
      exact h9
    · have h9 := hP 6 _ rfl
      rw [← z6] at h9
      exact h9
    · have h9 := hP 7 _ rfl
      rw [← z7] at h9
      exact h9
    · have h9 := hP 8 _ rfl
      rw [← z8] at h9
      exact h9
    · have h9 := hP 9 _ rfl
      rw [← z9] at h9
      exact h9
    · have h9 := hP 10 _ rfl
      rw [← z10] at h9
      exact h9
    · have h9 := hP 11 _ rfl
      rw [← z11] at h9
      exact h9
    · have h9 := hP 12 _ rfl
      rw [← z12] at h9
      exact h9
    · have h9 := hP 13 _ rfl
      rw [← z13] at h9
      exact h9
    · have h9 := hP 14 _ rfl
      rw [← z14] at h9
      exact h9
    · have h9 := hP 15 _ rfl
      rw [← z15] at h9
      exact h9
    · have h9 := hP 16 _ rfl
      rw [← z16] at h9
      exact h9
    · have h9 := hP 17 _ rfl
      rw [← z17] at h9
      exact h9
    · have h9 := hP 18 _ rfl
      rw [← z18] at h9
      exact h9
    · have h9 := hP 19 _ rfl
      rw [← z19] at h9
      exact h9
    · have h9 := hP 20 _ rfl
      rw [← z20] at h9
      exact h9
  have hl : lv_has ls 2 [(0, .ref (ad 0))] := by rw [z0]; exact hl
  have hF3 : ∀ w ∈ wsX30, w ∈ wsX3_init := by decide +kernel
  have lf7 := hts (.fieldLink RX3 7 "HarvestLenderModel" "needs" "[I") (by decide +kernel)
  have lf13 := hts (.fieldLink RX3 13 "HarvestLenderModel" "prices" "[I") (by decide +kernel)
  have lf16 := hts (.fieldLink RX3 16 "HarvestLenderModel" "normals" "[I") (by decide +kernel)
  refine k_iconst hx hb dX3_init_162 ?_
  refine lv_istore_n (lv' := [(1, .int (iI 0)), (0, .ref (ad 0))]) hx hb dX3_init_163 rfl hl (by decide) rfl (fun ls hl => ?_)
  refine lv_iload_n hx hb dX3_init_164 rfl (lv_at hl 0 rfl) ?_
  refine k_bipush (n := 12) hx hb dX3_init_165 (by decide) ?_
  refine k_icmp_ge (tgt := 185) hx hb dX3_init_167 (by decide) (by decide) (by decide) (fun c9 => absurd c9 (by decide)) (fun _ => ?_)
  refine lv_aload_n hx hb dX3_init_170 rfl (lv_at hl 1 rfl) ?_
  refine k_mg (v := .ref (ad 1)) hx hb hts hown hF3 hK hP 3 (by decide) lf7 dX3_init_171 rfl rfl ?_
  refine lv_iload_n hx hb dX3_init_174 rfl (lv_at hl 0 rfl) ?_
  refine k_sipush (n := 1000) hx hb dX3_init_175 (by decide) ?_
  refine k_mst (q := 1) (N := 12) (x := 0) (v := 1000) hx hb hI hAc hK hP hS (by decide) rfl (by decide) (by decide) (by decide) dX3_init_178 (fun H locs hP hS => ?_)
  have hP : va_P G vwCl (mW ad cy (mS1 1)) H := by rw [← mS1_s 0]; exact hP
  refine lv_iinc (v := iI 1) (lv' := [(1, .int (iI 1)), (0, .ref (ad 0))]) hx hb dX3_init_179 hl (k := 0) rfl rfl (by decide) rfl (fun ls hl => ?_)
  refine lv_goto (tgt := 164) hx hb dX3_init_182 (by decide) ?_
  refine lv_iload_n hx hb dX3_init_164 rfl (lv_at hl 0 rfl) ?_
  refine k_bipush (n := 12) hx hb dX3_init_165 (by decide) ?_
  refine k_icmp_ge (tgt := 185) hx hb dX3_init_167 (by decide) (by decide) (by decide) (fun c9 => absurd c9 (by decide)) (fun _ => ?_)
  refine lv_aload_n hx hb dX3_init_170 rfl (lv_at hl 1 rfl) ?_
  refine k_mg (v := .ref (ad 1)) hx hb hts hown hF3 hK hP 3 (by decide) lf7 dX3_init_171 rfl rfl ?_
  refine lv_iload_n hx hb dX3_init_174 rfl (lv_at hl 0 rfl) ?_
  refine k_sipush (n := 1000) hx hb dX3_init_175 (by decide) ?_
  refine k_mst (q := 1) (N := 12) (x := 1) (v := 1000) hx hb hI hAc hK hP hS (by decide) rfl (by decide) (by decide) (by decide) dX3_init_178 (fun H locs hP hS => ?_)
  have hP : va_P G vwCl (mW ad cy (mS1 2)) H := by rw [← mS1_s 1]; exact hP
  refine lv_iinc (v := iI 2) (lv' := [(1, .int (iI 2)), (0, .ref (ad 0))]) hx hb dX3_init_179 hl (k := 0) rfl rfl (by decide) rfl (fun ls hl => ?_)
  refine lv_goto (tgt := 164) hx hb dX3_init_182 (by decide) ?_
  refine lv_iload_n hx hb dX3_init_164 rfl (lv_at hl 0 rfl) ?_
  refine k_bipush (n := 12) hx hb dX3_init_165 (by decide) ?_
  refine k_icmp_ge (tgt := 185) hx hb dX3_init_167 (by decide) (by decide) (by decide) (fun c9 => absurd c9 (by decide)) (fun _ => ?_)
  refine lv_aload_n hx hb dX3_init_170 rfl (lv_at hl 1 rfl) ?_
  refine k_mg (v := .ref (ad 1)) hx hb hts hown hF3 hK hP 3 (by decide) lf7 dX3_init_171 rfl rfl ?_
  refine lv_iload_n hx hb dX3_init_174 rfl (lv_at hl 0 rfl) ?_
  refine k_sipush (n := 1000) hx hb dX3_init_175 (by decide) ?_
  refine k_mst (q := 1) (N := 12) (x := 2) (v := 1000) hx hb hI hAc hK hP hS (by decide) rfl (by decide) (by decide) (by decide) dX3_init_178 (fun H locs hP hS => ?_)
  have hP : va_P G vwCl (mW ad cy (mS1 3)) H := by rw [← mS1_s 2]; exact hP
  refine lv_iinc (v := iI 3) (lv' := [(1, .int (iI 3)), (0, .ref (ad 0))]) hx hb dX3_init_179 hl (k := 0) rfl rfl (by decide) rfl (fun ls hl => ?_)
  refine lv_goto (tgt := 164) hx hb dX3_init_182 (by decide) ?_
  refine lv_iload_n hx hb dX3_init_164 rfl (lv_at hl 0 rfl) ?_
  refine k_bipush (n := 12) hx hb dX3_init_165 (by decide) ?_
  refine k_icmp_ge (tgt := 185) hx hb dX3_init_167 (by decide) (by decide) (by decide) (fun c9 => absurd c9 (by decide)) (fun _ => ?_)
  refine lv_aload_n hx hb dX3_init_170 rfl (lv_at hl 1 rfl) ?_
  refine k_mg (v := .ref (ad 1)) hx hb hts hown hF3 hK hP 3 (by decide) lf7 dX3_init_171 rfl rfl ?_
  refine lv_iload_n hx hb dX3_init_174 rfl (lv_at hl 0 rfl) ?_
  refine k_sipush (n := 1000) hx hb dX3_init_175 (by decide) ?_
  refine k_mst (q := 1) (N := 12) (x := 3) (v := 1000) hx hb hI hAc hK hP hS (by decide) rfl (by decide) (by decide) (by decide) dX3_init_178 (fun H locs hP hS => ?_)
  have hP : va_P G vwCl (mW ad cy (mS1 4)) H := by rw [← mS1_s 3]; exact hP
  refine lv_iinc (v := iI 4) (lv' := [(1, .int (iI 4)), (0, .ref (ad 0))]) hx hb dX3_init_179 hl (k := 0) rfl rfl (by decide) rfl (fun ls hl => ?_)
  refine lv_goto (tgt := 164) hx hb dX3_init_182 (by decide) ?_
  refine lv_iload_n hx hb dX3_init_164 rfl (lv_at hl 0 rfl) ?_
  refine k_bipush (n := 12) hx hb dX3_init_165 (by decide) ?_
  refine k_icmp_ge (tgt := 185) hx hb dX3_init_167 (by decide) (by decide) (by decide) (fun c9 => absurd c9 (by decide)) (fun _ => ?_)
  refine lv_aload_n hx hb dX3_init_170 rfl (lv_at hl 1 rfl) ?_
  refine k_mg (v := .ref (ad 1)) hx hb hts hown hF3 hK hP 3 (by decide) lf7 dX3_init_171 rfl rfl ?_
  refine lv_iload_n hx hb dX3_init_174 rfl (lv_at hl 0 rfl) ?_
  refine k_sipush (n := 1000) hx hb dX3_init_175 (by decide) ?_
  refine k_mst (q := 1) (N := 12) (x := 4) (v := 1000) hx hb hI hAc hK hP hS (by decide) rfl (by decide) (by decide) (by decide) dX3_init_178 (fun H locs hP hS => ?_)
  have hP : va_P G vwCl (mW ad cy (mS1 5)) H := by rw [← mS1_s 4]; exact hP
  refine lv_iinc (v := iI 5) (lv' := [(1, .int (iI 5)), (0, .ref (ad 0))]) hx hb dX3_init_179 hl (k := 0) rfl rfl (by decide) rfl (fun ls hl => ?_)
  refine lv_goto (tgt := 164) hx hb dX3_init_182 (by decide) ?_
  refine lv_iload_n hx hb dX3_init_164 rfl (lv_at hl 0 rfl) ?_
  refine k_bipush (n := 12) hx hb dX3_init_165 (by decide) ?_
  refine k_icmp_ge (tgt := 185) hx hb dX3_init_167 (by decide) (by decide) (by decide) (fun c9 => absurd c9 (by decide)) (fun _ => ?_)
  refine lv_aload_n hx hb dX3_init_170 rfl (lv_at hl 1 rfl) ?_
  refine k_mg (v := .ref (ad 1)) hx hb hts hown hF3 hK hP 3 (by decide) lf7 dX3_init_171 rfl rfl ?_
  refine lv_iload_n hx hb dX3_init_174 rfl (lv_at hl 0 rfl) ?_
  refine k_sipush (n := 1000) hx hb dX3_init_175 (by decide) ?_
  refine k_mst (q := 1) (N := 12) (x := 5) (v := 1000) hx hb hI hAc hK hP hS (by decide) rfl (by decide) (by decide) (by decide) dX3_init_178 (fun H locs hP hS => ?_)
  have hP : va_P G vwCl (mW ad cy (mS1 6)) H := by rw [← mS1_s 5]; exact hP
  refine lv_iinc (v := iI 6) (lv' := [(1, .int (iI 6)), (0, .ref (ad 0))]) hx hb dX3_init_179 hl (k := 0) rfl rfl (by decide) rfl (fun ls hl => ?_)
  refine lv_goto (tgt := 164) hx hb dX3_init_182 (by decide) ?_
  refine lv_iload_n hx hb dX3_init_164 rfl (lv_at hl 0 rfl) ?_
  refine k_bipush (n := 12) hx hb dX3_init_165 (by decide) ?_
  refine k_icmp_ge (tgt := 185) hx hb dX3_init_167 (by decide) (by decide) (by decide) (fun c9 => absurd c9 (by decide)) (fun _ => ?_)
  refine lv_aload_n hx hb dX3_init_170 rfl (lv_at hl 1 rfl) ?_
  refine k_mg (v := .ref (ad 1)) hx hb hts hown hF3 hK hP 3 (by decide) lf7 dX3_init_171 rfl rfl ?_
  refine lv_iload_n hx hb dX3_init_174 rfl (lv_at hl 0 rfl) ?_
  refine k_sipush (n := 1000) hx hb dX3_init_175 (by decide) ?_
  refine k_mst (q := 1) (N := 12) (x := 6) (v := 1000) hx hb hI hAc hK hP hS (by decide) rfl (by decide) (by decide) (by decide) dX3_init_178 (fun H locs hP hS => ?_)
  have hP : va_P G vwCl (mW ad cy (mS1 7)) H := by rw [← mS1_s 6]; exact hP
  refine lv_iinc (v := iI 7) (lv' := [(1, .int (iI 7)), (0, .ref (ad 0))]) hx hb dX3_init_179 hl (k := 0) rfl rfl (by decide) rfl (fun ls hl => ?_)
  refine lv_goto (tgt := 164) hx hb dX3_init_182 (by decide) ?_
  refine lv_iload_n hx hb dX3_init_164 rfl (lv_at hl 0 rfl) ?_
  refine k_bipush (n := 12) hx hb dX3_init_165 (by decide) ?_
  refine k_icmp_ge (tgt := 185) hx hb dX3_init_167 (by decide) (by decide) (by decide) (fun c9 => absurd c9 (by decide)) (fun _ => ?_)
  refine lv_aload_n hx hb dX3_init_170 rfl (lv_at hl 1 rfl) ?_
  refine k_mg (v := .ref (ad 1)) hx hb hts hown hF3 hK hP 3 (by decide) lf7 dX3_init_171 rfl rfl ?_
  refine lv_iload_n hx hb dX3_init_174 rfl (lv_at hl 0 rfl) ?_
  refine k_sipush (n := 1000) hx hb dX3_init_175 (by decide) ?_
  refine k_mst (q := 1) (N := 12) (x := 7) (v := 1000) hx hb hI hAc hK hP hS (by decide) rfl (by decide) (by decide) (by decide) dX3_init_178 (fun H locs hP hS => ?_)
  have hP : va_P G vwCl (mW ad cy (mS1 8)) H := by rw [← mS1_s 7]; exact hP
  refine lv_iinc (v := iI 8) (lv' := [(1, .int (iI 8)), (0, .ref (ad 0))]) hx hb dX3_init_179 hl (k := 0) rfl rfl (by decide) rfl (fun ls hl => ?_)
  refine lv_goto (tgt := 164) hx hb dX3_init_182 (by decide) ?_
  refine lv_iload_n hx hb dX3_init_164 rfl (lv_at hl 0 rfl) ?_
  refine k_bipush (n := 12) hx hb dX3_init_165 (by decide) ?_
  refine k_icmp_ge (tgt := 185) hx hb dX3_init_167 (by decide) (by decide) (by decide) (fun c9 => absurd c9 (by decide)) (fun _ => ?_)
  refine lv_aload_n hx hb dX3_init_170 rfl (lv_at hl 1 rfl) ?_
  refine k_mg (v := .ref (ad 1)) hx hb hts hown hF3 hK hP 3 (by decide) lf7 dX3_init_171 rfl rfl ?_
  refine lv_iload_n hx hb dX3_init_174 rfl (lv_at hl 0 rfl) ?_
  refine k_sipush (n := 1000) hx hb dX3_init_175 (by decide) ?_
  refine k_mst (q := 1) (N := 12) (x := 8) (v := 1000) hx hb hI hAc hK hP hS (by decide) rfl (by decide) (by decide) (by decide) dX3_init_178 (fun H locs hP hS => ?_)
  have hP : va_P G vwCl (mW ad cy (mS1 9)) H := by rw [← mS1_s 8]; exact hP
  refine lv_iinc (v := iI 9) (lv' := [(1, .int (iI 9)), (0, .ref (ad 0))]) hx hb dX3_init_179 hl (k := 0) rfl rfl (by decide) rfl (fun ls hl => ?_)
  refine lv_goto (tgt := 164) hx hb dX3_init_182 (by decide) ?_
  refine lv_iload_n hx hb dX3_init_164 rfl (lv_at hl 0 rfl) ?_
  refine k_bipush (n := 12) hx hb dX3_init_165 (by decide) ?_
  refine k_icmp_ge (tgt := 185) hx hb dX3_init_167 (by decide) (by decide) (by decide) (fun c9 => absurd c9 (by decide)) (fun _ => ?_)
  refine lv_aload_n hx hb dX3_init_170 rfl (lv_at hl 1 rfl) ?_
  refine k_mg (v := .ref (ad 1)) hx hb hts hown hF3 hK hP 3 (by decide) lf7 dX3_init_171 rfl rfl ?_
  refine lv_iload_n hx hb dX3_init_174 rfl (lv_at hl 0 rfl) ?_
  refine k_sipush (n := 1000) hx hb dX3_init_175 (by decide) ?_
  refine k_mst (q := 1) (N := 12) (x := 9) (v := 1000) hx hb hI hAc hK hP hS (by decide) rfl (by decide) (by decide) (by decide) dX3_init_178 (fun H locs hP hS => ?_)
  have hP : va_P G vwCl (mW ad cy (mS1 10)) H := by rw [← mS1_s 9]; exact hP
  refine lv_iinc (v := iI 10) (lv' := [(1, .int (iI 10)), (0, .ref (ad 0))]) hx hb dX3_init_179 hl (k := 0) rfl rfl (by decide) rfl (fun ls hl => ?_)
  refine lv_goto (tgt := 164) hx hb dX3_init_182 (by decide) ?_
  refine lv_iload_n hx hb dX3_init_164 rfl (lv_at hl 0 rfl) ?_
  refine k_bipush (n := 12) hx hb dX3_init_165 (by decide) ?_
  refine k_icmp_ge (tgt := 185) hx hb dX3_init_167 (by decide) (by decide) (by decide) (fun c9 => absurd c9 (by decide)) (fun _ => ?_)
  refine lv_aload_n hx hb dX3_init_170 rfl (lv_at hl 1 rfl) ?_
  refine k_mg (v := .ref (ad 1)) hx hb hts hown hF3 hK hP 3 (by decide) lf7 dX3_init_171 rfl rfl ?_
  refine lv_iload_n hx hb dX3_init_174 rfl (lv_at hl 0 rfl) ?_
  refine k_sipush (n := 1000) hx hb dX3_init_175 (by decide) ?_
  refine k_mst (q := 1) (N := 12) (x := 10) (v := 1000) hx hb hI hAc hK hP hS (by decide) rfl (by decide) (by decide) (by decide) dX3_init_178 (fun H locs hP hS => ?_)
  have hP : va_P G vwCl (mW ad cy (mS1 11)) H := by rw [← mS1_s 10]; exact hP
  refine lv_iinc (v := iI 11) (lv' := [(1, .int (iI 11)), (0, .ref (ad 0))]) hx hb dX3_init_179 hl (k := 0) rfl rfl (by decide) rfl (fun ls hl => ?_)
  refine lv_goto (tgt := 164) hx hb dX3_init_182 (by decide) ?_
  refine lv_iload_n hx hb dX3_init_164 rfl (lv_at hl 0 rfl) ?_
  refine k_bipush (n := 12) hx hb dX3_init_165 (by decide) ?_
  refine k_icmp_ge (tgt := 185) hx hb dX3_init_167 (by decide) (by decide) (by decide) (fun c9 => absurd c9 (by decide)) (fun _ => ?_)
  refine lv_aload_n hx hb dX3_init_170 rfl (lv_at hl 1 rfl) ?_
  refine k_mg (v := .ref (ad 1)) hx hb hts hown hF3 hK hP 3 (by decide) lf7 dX3_init_171 rfl rfl ?_
  refine lv_iload_n hx hb dX3_init_174 rfl (lv_at hl 0 rfl) ?_
  refine k_sipush (n := 1000) hx hb dX3_init_175 (by decide) ?_
  refine k_mst (q := 1) (N := 12) (x := 11) (v := 1000) hx hb hI hAc hK hP hS (by decide) rfl (by decide) (by decide) (by decide) dX3_init_178 (fun H locs hP hS => ?_)
  have hP : va_P G vwCl (mW ad cy (mS1 12)) H := by rw [← mS1_s 11]; exact hP
  refine lv_iinc (v := iI 12) (lv' := [(1, .int (iI 12)), (0, .ref (ad 0))]) hx hb dX3_init_179 hl (k := 0) rfl rfl (by decide) rfl (fun ls hl => ?_)
  refine lv_goto (tgt := 164) hx hb dX3_init_182 (by decide) ?_
  refine lv_iload_n hx hb dX3_init_164 rfl (lv_at hl 0 rfl) ?_
  refine k_bipush (n := 12) hx hb dX3_init_165 (by decide) ?_
  refine k_icmp_ge (tgt := 185) hx hb dX3_init_167 (by decide) (by decide) (by decide) (fun _ => ?_) (fun c9 => absurd c9 (by decide))
  have hP : va_P G vwCl (mW ad cy (mS2 0)) H := by rw [mS2_0]; exact hP
  refine k_iconst hx hb dX3_init_185 ?_
  refine lv_istore_n (lv' := [(1, .int (iI 0)), (0, .ref (ad 0))]) hx hb dX3_init_186 rfl hl (by decide) rfl (fun ls hl => ?_)
  refine lv_iload_n hx hb dX3_init_187 rfl (lv_at hl 0 rfl) ?_
  refine k_iconst hx hb dX3_init_188 ?_
  refine k_icmp_ge (tgt := 214) hx hb dX3_init_189 (by decide) (by decide) (by decide) (fun c9 => absurd c9 (by decide)) (fun _ => ?_)
  refine lv_aload_n hx hb dX3_init_192 rfl (lv_at hl 1 rfl) ?_
  refine k_mg (v := .ref (ad 2)) hx hb hts hown hF3 hK hP 4 (by decide) lf13 dX3_init_193 rfl rfl ?_
  refine lv_iload_n hx hb dX3_init_196 rfl (lv_at hl 0 rfl) ?_
  refine k_bipush (n := 100) hx hb dX3_init_197 (by decide) ?_
  refine k_mst (q := 2) (N := 3) (x := 0) (v := 100) hx hb hI hAc hK hP hS (by decide) rfl (by decide) (by decide) (by decide) dX3_init_199 (fun H locs hP hS => ?_)
  refine lv_aload_n hx hb dX3_init_200 rfl (lv_at hl 1 rfl) ?_
  refine k_mg (v := .ref (ad 3)) hx hb hts hown hF3 hK hP 5 (by decide) lf16 dX3_init_201 rfl rfl ?_
  refine lv_iload_n hx hb dX3_init_204 rfl (lv_at hl 0 rfl) ?_
  refine k_bipush (n := 50) hx hb dX3_init_205 (by decide) ?_
  refine k_mst (q := 3) (N := 3) (x := 0) (v := 50) hx hb hI hAc hK hP hS (by decide) rfl (by decide) (by decide) (by decide) dX3_init_207 (fun H locs hP hS => ?_)
  have hP : va_P G vwCl (mW ad cy (mS2 1)) H := by rw [← mS2_s 0]; exact hP
  refine lv_iinc (v := iI 1) (lv' := [(1, .int (iI 1)), (0, .ref (ad 0))]) hx hb dX3_init_208 hl (k := 0) rfl rfl (by decide) rfl (fun ls hl => ?_)
  refine lv_goto (tgt := 187) hx hb dX3_init_211 (by decide) ?_
  refine lv_iload_n hx hb dX3_init_187 rfl (lv_at hl 0 rfl) ?_
  refine k_iconst hx hb dX3_init_188 ?_
  refine k_icmp_ge (tgt := 214) hx hb dX3_init_189 (by decide) (by decide) (by decide) (fun c9 => absurd c9 (by decide)) (fun _ => ?_)
  refine lv_aload_n hx hb dX3_init_192 rfl (lv_at hl 1 rfl) ?_
  refine k_mg (v := .ref (ad 2)) hx hb hts hown hF3 hK hP 4 (by decide) lf13 dX3_init_193 rfl rfl ?_
  refine lv_iload_n hx hb dX3_init_196 rfl (lv_at hl 0 rfl) ?_
  refine k_bipush (n := 100) hx hb dX3_init_197 (by decide) ?_
  refine k_mst (q := 2) (N := 3) (x := 1) (v := 100) hx hb hI hAc hK hP hS (by decide) rfl (by decide) (by decide) (by decide) dX3_init_199 (fun H locs hP hS => ?_)
  refine lv_aload_n hx hb dX3_init_200 rfl (lv_at hl 1 rfl) ?_
  refine k_mg (v := .ref (ad 3)) hx hb hts hown hF3 hK hP 5 (by decide) lf16 dX3_init_201 rfl rfl ?_
  refine lv_iload_n hx hb dX3_init_204 rfl (lv_at hl 0 rfl) ?_
  refine k_bipush (n := 50) hx hb dX3_init_205 (by decide) ?_
  refine k_mst (q := 3) (N := 3) (x := 1) (v := 50) hx hb hI hAc hK hP hS (by decide) rfl (by decide) (by decide) (by decide) dX3_init_207 (fun H locs hP hS => ?_)
  have hP : va_P G vwCl (mW ad cy (mS2 2)) H := by rw [← mS2_s 1]; exact hP
  refine lv_iinc (v := iI 2) (lv' := [(1, .int (iI 2)), (0, .ref (ad 0))]) hx hb dX3_init_208 hl (k := 0) rfl rfl (by decide) rfl (fun ls hl => ?_)
  refine lv_goto (tgt := 187) hx hb dX3_init_211 (by decide) ?_
  refine lv_iload_n hx hb dX3_init_187 rfl (lv_at hl 0 rfl) ?_
  refine k_iconst hx hb dX3_init_188 ?_
  refine k_icmp_ge (tgt := 214) hx hb dX3_init_189 (by decide) (by decide) (by decide) (fun c9 => absurd c9 (by decide)) (fun _ => ?_)
  refine lv_aload_n hx hb dX3_init_192 rfl (lv_at hl 1 rfl) ?_
  refine k_mg (v := .ref (ad 2)) hx hb hts hown hF3 hK hP 4 (by decide) lf13 dX3_init_193 rfl rfl ?_
  refine lv_iload_n hx hb dX3_init_196 rfl (lv_at hl 0 rfl) ?_
  refine k_bipush (n := 100) hx hb dX3_init_197 (by decide) ?_
  refine k_mst (q := 2) (N := 3) (x := 2) (v := 100) hx hb hI hAc hK hP hS (by decide) rfl (by decide) (by decide) (by decide) dX3_init_199 (fun H locs hP hS => ?_)
  refine lv_aload_n hx hb dX3_init_200 rfl (lv_at hl 1 rfl) ?_
  refine k_mg (v := .ref (ad 3)) hx hb hts hown hF3 hK hP 5 (by decide) lf16 dX3_init_201 rfl rfl ?_
  refine lv_iload_n hx hb dX3_init_204 rfl (lv_at hl 0 rfl) ?_
  refine k_bipush (n := 50) hx hb dX3_init_205 (by decide) ?_
  refine k_mst (q := 3) (N := 3) (x := 2) (v := 50) hx hb hI hAc hK hP hS (by decide) rfl (by decide) (by decide) (by decide) dX3_init_207 (fun H locs hP hS => ?_)
  have hP : va_P G vwCl (mW ad cy (mS2 3)) H := by rw [← mS2_s 2]; exact hP
  refine lv_iinc (v := iI 3) (lv' := [(1, .int (iI 3)), (0, .ref (ad 0))]) hx hb dX3_init_208 hl (k := 0) rfl rfl (by decide) rfl (fun ls hl => ?_)
  refine lv_goto (tgt := 187) hx hb dX3_init_211 (by decide) ?_
  refine lv_iload_n hx hb dX3_init_187 rfl (lv_at hl 0 rfl) ?_
  refine k_iconst hx hb dX3_init_188 ?_
  refine k_icmp_ge (tgt := 214) hx hb dX3_init_189 (by decide) (by decide) (by decide) (fun _ => ?_) (fun c9 => absurd c9 (by decide))
  subst hAe
  exact W.vret hx hb hr (fun t ht hW => ⟨⟨ad, rfl, ⟨z0, hI⟩, by rw [ht]; exact hP, va_K.moved hW.alike hK, mD hI hAc cy (mS2 3)⟩, hS.F ht⟩) hS.2.2 dX3_init_214
